def srt (F : Nat → Nat) (P : List Nat) : Prop := ∀ i j, i < j → j < P.length → kyF F (P.getD i 0) < kyF F (P.getD j 0)
theorem nI_dec {k : Nat} (h : 1 ≤ k) : nI k + Int32.ofInt (-1) = nI (k - 1) := by
  obtain ⟨n, rfl⟩ : ∃ n, k = n + 1 := ⟨k - 1, by omega⟩
  have e : nI (n + 1) - 1 = nI n := nI_pred n
  rw [Nat.add_sub_cancel, ← e, show Int32.ofInt (-1) = -1 by decide, Int32.sub_eq_add_neg]
theorem nd_getD {M : List Nat} (h : M.Nodup) {i j : Nat} (hij : i < j) (hj : j < M.length) : M.getD i 0 ≠ M.getD j 0 := by
  have h8 := List.nodup_iff_pairwise_ne.mp h
  rw [List.pairwise_iff_getElem] at h8
  have := h8 i j (by omega) hj hij
  rw [List.getD_eq_getElem?_getD, List.getD_eq_getElem?_getD, List.getElem?_eq_getElem (by omega), List.getElem?_eq_getElem hj]
  exact this
theorem srt_pw {F : Nat → Nat} {P : List Nat} (h : srt F P) : (P.map (kyF F)).Pairwise (· < ·) := by
  rw [List.pairwise_map, List.pairwise_iff_getElem]
  intro i j hi hj hij
  have := h i j hij hj
  rw [List.getD_eq_getElem?_getD, List.getD_eq_getElem?_getD, List.getElem?_eq_getElem hi, List.getElem?_eq_getElem hj] at this
  exact this
theorem key_back {F : Nat → Nat} : ∀ {P : List Nat}, (∀ v, v ∈ P → v < 1000000) → (P.map (kyF F)).map (· % 1000000) = P
  | [], _ => rfl
  | v :: P, h => by
    rw [List.map_cons, List.map_cons, key_back (fun u hu => h u (List.mem_cons_of_mem _ hu))]
    show kyF F v % 1000000 :: P = v :: P
    rw [kyF_mod (h v List.mem_cons_self)]
theorem srt_uniq {F : Nat → Nat} {P Q : List Nat} (hv : ∀ v, v ∈ Q → v < 1000000) (hp : P.Perm Q) (h1 : srt F P) (h2 : srt F Q) : P = Q := by
  have e : P.map (kyF F) = Q.map (kyF F) := asc_ext (srt_pw h1) (srt_pw h2) (fun x => by
    rw [List.mem_map, List.mem_map]
    constructor
    · rintro ⟨a, b, c⟩; exact ⟨a, hp.mem_iff.mp b, c⟩
    · rintro ⟨a, b, c⟩; exact ⟨a, hp.mem_iff.mpr b, c⟩)
  rw [← key_back (F := F) (P := P) (fun v h => hv v (hp.mem_iff.mp h)), e, key_back hv]
theorem ins_srt {F : Nat → Nat} {P : List Nat} {v k : Nat} (h : srt F P) (hk : k ≤ P.length) (h1 : ∀ j, j < k → kyF F (P.getD j 0) < kyF F v) (h2 : ∀ j, k ≤ j → j < P.length → kyF F v < kyF F (P.getD j 0)) : srt F (P.take k ++ v :: P.drop k) := by
  intro i j hij hj
  rw [ins_len hk] at hj
  rw [ins_getD hk (by omega), ins_getD hk (by omega)]
  by_cases a1 : j < k
  · rw [if_pos a1, if_pos (by omega)]; exact h i j hij (by omega)
  · rw [if_neg a1]
    by_cases a2 : j = k
    · rw [if_pos a2, if_pos (by omega)]; exact h1 i (by omega)
    · rw [if_neg a2]
      by_cases b1 : i < k
      · rw [if_pos b1]; exact h i (j - 1) (by omega) (by omega)
      · rw [if_neg b1]
        by_cases b2 : i = k
        · rw [if_pos b2]; exact h2 (j - 1) (by omega) (by omega)
        · rw [if_neg b2]; exact h (i - 1) (j - 1) (by omega) (by omega)
theorem drop_cons {Q : List Nat} {j : Nat} (h : j < Q.length) : Q.drop j = Q.getD j 0 :: Q.drop (j + 1) := by
  rw [List.drop_eq_getElem_cons h, List.getD_eq_getElem?_getD, List.getElem?_eq_getElem h]; rfl
theorem drop_am {w : Nat → Nat} {Q : List Nat} {j : Nat} (h : j < Q.length) : amL w (Q.drop j) = w (Q.getD j 0) + amL w (Q.drop (j + 1)) := by
  rw [drop_cons h, amL_cons]
theorem drop_sh {w : Nat → Nat} {Q N : List Nat} {j : Nat} (h : j < Q.length) : shL w (Q.drop j) N = (if Q.getD j 0 ∈ N then w (Q.getD j 0) else 0) + shL w (Q.drop (j + 1)) N := by
  rw [drop_cons h]
  show ((_ :: _).map _).sum = _
  rw [List.map_cons, List.sum_cons]; rfl
def kI (i : Nat) : Int32 := nI 3 - nI i
theorem kI_neg : ∀ i, i < 5 → (kI i < 0 ↔ 4 ≤ i) := by decide
theorem kI_step : ∀ i, i < 4 → kI i + Int32.ofInt (-1) = kI (i + 1) := by decide
theorem kI_sh : ∀ i, i < 4 → nI 8 * kI i = nI (24 - 8 * i) := by decide
theorem sh_amt : ∀ i, i < 4 → ((nI (24 - 8 * i) &&& 31).toBitVec.smod 32).toNat = 24 - 8 * i := by decide
theorem by_shr (v : Int32) (i : Nat) (hi : i < 4) : v >>> (nI (24 - 8 * i) &&& 31) &&& nI 255 = nI (byN v (24 - 8 * i)) := by
  rw [pk_and _ 8 (by decide)]
  unfold byN
  have h1 := pk_shr v (nI (24 - 8 * i) &&& 31) (24 - 8 * i) (sh_amt i hi)
  obtain ⟨x, ex⟩ : ∃ x, x = v >>> (nI (24 - 8 * i) &&& 31) := ⟨_, rfl⟩
  rw [← ex] at h1 ⊢
  have h2 : x.toInt = if 2 * x.toBitVec.toNat < 2 ^ 32 then (x.toBitVec.toNat : Int) else (x.toBitVec.toNat : Int) - (2 ^ 32 : Nat) := BitVec.toInt_eq_toNat_cond x.toBitVec
  have h3 : v.toInt = if 2 * v.toBitVec.toNat < 2 ^ 32 then (v.toBitVec.toNat : Int) else (v.toBitVec.toNat : Int) - (2 ^ 32 : Nat) := BitVec.toInt_eq_toNat_cond v.toBitVec
  have b1 := x.toBitVec.isLt
  have b2 := v.toBitVec.isLt
  rw [Int.shiftRight_eq_div_pow] at h1
  congr 1
  rcases (show i = 0 ∨ i = 1 ∨ i = 2 ∨ i = 3 by omega) with rfl | rfl | rfl | rfl
  all_goals
    simp only [Nat.reduceMul, Nat.reduceSub, Nat.reducePow] at *
    split at h2 <;> split at h3 <;> omega
theorem msIn_nat {a b c : Int32} (h : msIn a b c) : ∃ kd p q, a = nI kd ∧ b = nI p ∧ c = nI q ∧ mOk kd p q := by
  have f : ∀ x : Int32, 0 ≤ x.toInt → ∃ n, n < 2 ^ 31 ∧ x = nI n := fun x hx => nI_of (x := x) (by rw [i32_lt]; show ¬ _ < (0 : Int); omega)
  have h' := h
  unfold msIn at h'
  obtain ⟨kd, h1, rfl⟩ := f a (by omega)
  obtain ⟨p, h2, rfl⟩ := f b (by omega)
  obtain ⟨q, h3, rfl⟩ := f c (by omega)
  rw [nI_toInt h1, nI_toInt h2, nI_toInt h3] at h'
  exact ⟨kd, p, q, rfl, rfl, rfl, by unfold mOk; omega⟩
set_option maxRecDepth 100000 in
set_option maxHeartbeats 4000000 in
theorem c_Md_sort1 {G : Gd} {z : Nat} {h : AH} {y : Nat} {th : Int32} {mk : Nat} {ts : Nat} {fs : Nat} {kd : Nat} {p : Nat} {q : Nat} {len : Nat} {ks : Nat} {fm : Nat} {cm : Nat} {be : Nat} {dz : Nat → Bool} {mn : Nat → Nat} {st : Nat → Nat} {tn : Nat → Nat} {tv : Nat → Nat} {fn : Nat → Nat} {fv : Nat → Nat} {on : Nat → Nat} {tw : Nat → Nat} {bf : Nat → Nat} {g1 : Nat → Nat} {g2 : Nat → Nat} {g3 : Nat → Nat} {sv : Nat → Nat} {fa : Nat → Int32} {fy : Nat → Nat} {bs : Nat → Nat} {cf : Nat → Nat} {av : Nat → Bool} {M L : Nat → List Nat} {W F : Nat → Nat} (r : Nat) (hr : av r = true) (hI : mdI mk ts fs kd p q av M L W F dz mn st tn tv fn fv) (hM : mdC G h y th mk ts fs kd p q len ks fm cm be dz mn st tn tv fn fv on tw bf g1 g2 g3 sv fa fy bs cf)  : Ct G yX8_sort cX8_sort 6 none 2 0 0 [.ref y, .int (nI r), .ref (y + 8)] z h (fun r' z' h' => r' = none ∧ z' = z ∧ fr (y + 8) (y + 9) h h' ∧ ∃ o', (∀ j, j < (L r).length → o' j = (L r).getD j 0) ∧ mdC G h' y th mk ts fs kd p q len ks fm cm be dz mn st tn tv fn fv (o') tw bf g1 g2 g3 sv fa fy bs cf) := by
  refine Ct.of (lv := [_, _, _, _, _, _]) (by decide) (Nat.le_of_ble_eq_true rfl) rfl ?_
  rintro X rfl hX hR hnm
  obtain ⟨⟨hmk, hav, hdz⟩, hS, hT, hK, hL, hmo, hemp⟩ := id hI
  have hrm := hav r hr
  obtain ⟨s1, s2, s3, s4, s5⟩ := hS r (by omega)
  obtain ⟨l1, l2⟩ := hL r hr
  refine V_iconst (pc' := 1) (v := nI 0) hX dX8_sort_0 (by decide) rfl ?_
  refine V_istore_n (pc' := 2) (lv' := [_, _, _, _, _, _]) hX dX8_sort_1 (Nat.le_of_ble_eq_true rfl) rfl rfl ?_
  have lp : ∀ (μ i : Nat) (h2 : AH) (o2 : Nat → Nat) (P : List Nat), i ≤ (M r).length → P.Perm ((M r).take i) → srt F P → (∀ j, j < i → o2 j = P.getD j 0) → fr (y + 8) (y + 9) h h2 → mdC X.G h2 y th mk ts fs kd p q len ks fm cm be dz mn st tn tv fn fv (o2) tw bf g1 g2 g3 sv fa fy bs cf → (M r).length - i < μ → V X 0 0 z h2 2 [some (.ref y), some (.int (nI r)), some (.ref (y + 8)), some (.int (nI i)), none, none] [] := by
    intro μ
    induction μ with
    | zero => intros; omega
    | succ μ ih =>
      intro i h2 o2 P b1 b2 b3 b4 b5 hM b6
      have hPl : P.length = i := by rw [b2.length_eq, List.length_take]; omega
      refine V_iload_n (pc' := 3) hX dX8_sort_2 rfl rfl ?_
      refine V_aload_n (pc' := 4) hX dX8_sort_3 rfl rfl ?_
      refine V_get (pc' := 7) hX dX8_sort_4 hM.1 rfl inX8 3 (by decide) wF_X8_13 rfl rfl ?_
      refine V_iload_n (pc' := 8) hX dX8_sort_7 rfl rfl ?_
      refine V_ialdN (pc' := 9) (v := nI (M r).length) hX dX8_sort_8 hM.2.2.1 (by omega) (by omega) (by rw [s1]) rfl ?_
      refine V_icmp_geN (pt := 76) (pc' := 12) hX dX8_sort_9 (by omega) (by omega) rfl rfl (fun c9 => ?_) (fun c9 => ?_)
      · refine V_vret hX hR dX8_sort_76 ?_
        have ei : i = (M r).length := by omega
        subst ei
        rw [List.take_length] at b2
        have eP : P = L r := srt_uniq (fun v hv => s5 v (l1.mem_iff.mp hv)) (b2.trans l1.symm) b3 l2
        subst eP
        exact ⟨rfl, rfl, b5, o2, fun j hj => b4 j (by omega), hM⟩
      · refine V_aload_n (pc' := 13) hX dX8_sort_12 rfl rfl ?_
        refine V_get (pc' := 16) hX dX8_sort_13 hM.1 rfl inX8 4 (by decide) wF_X8_17 rfl rfl ?_
        refine V_bipush (pc' := 18) (v := nI 30) hX dX8_sort_16 (by decide) rfl ?_
        refine V_iload_n (pc' := 19) hX dX8_sort_18 rfl rfl ?_
        refine V_imulN (pc' := 20) hX dX8_sort_19 rfl ?_
        refine V_iload_n (pc' := 21) hX dX8_sort_20 rfl rfl ?_
        refine V_iaddN (pc' := 22) hX dX8_sort_21 rfl ?_
        refine V_ialdN (pc' := 23) (v := nI ((M r).getD i 0)) hX dX8_sort_22 hM.2.2.2.1 (by omega) (by omega) (by rw [s3 i (by omega)]) rfl ?_
        refine V_istore (pc' := 25) (lv' := [_, _, _, _, _, _]) hX dX8_sort_23 (Nat.le_of_ble_eq_true rfl) rfl rfl ?_
        have ihO := ih
        have hvM := s5 _ (getD_mem (L := M r) (j := i) (by omega))
        have hPv : ∀ j, j < i → P.getD j 0 < 1000000 := fun j hj => s5 _ (List.mem_of_mem_take (b2.mem_iff.mp (getD_mem (by omega))))
        have hPne : ∀ j, j < i → P.getD j 0 ≠ ((M r).getD i 0) := fun j hj e => by
          obtain ⟨i9, i1, i2⟩ := (mem_take (by omega)).mp (b2.mem_iff.mp (getD_mem (L := P) (j := j) (by omega)))
          exact nd_getD s4 i1 (by omega) (i2.trans e)
        refine V_iload_n (pc' := 26) hX dX8_sort_25 rfl rfl ?_
        refine V_istore (pc' := 28) (lv' := [_, _, _, _, _, _]) hX dX8_sort_26 (Nat.le_of_ble_eq_true rfl) rfl rfl ?_
        have lq : ∀ (ν k : Nat) (h3 : AH) (o3 : Nat → Nat), k ≤ i → (∀ j, j < k → o3 j = P.getD j 0) → (∀ j, k < j → j ≤ i → o3 j = P.getD (j - 1) 0) → (∀ j, k ≤ j → j < i → kyF F ((M r).getD i 0) < kyF F (P.getD j 0)) → fr (y + 8) (y + 9) h h3 → mdC X.G h3 y th mk ts fs kd p q len ks fm cm be dz mn st tn tv fn fv (o3) tw bf g1 g2 g3 sv fa fy bs cf → k < ν → V X 0 0 z h3 28 [some (.ref y), some (.int (nI r)), some (.ref (y + 8)), some (.int (nI i)), some (.int (nI ((M r).getD i 0))), some (.int (nI k))] [] := by
          intro μ
          induction μ with
          | zero => intros; omega
          | succ μ ih =>
            intro k h3 o3 e1 e2 e3 e4 e5 hM e6
            refine V_iload (pc' := 30) hX dX8_sort_28 rfl rfl ?_
            refine V_if_leN (pt := 64) (pc' := 33) hX dX8_sort_30 (by omega) rfl rfl (fun c30 => ?_) (fun c30 => ?_)
            · have hlt : ∀ j, j < k → kyF F (P.getD j 0) < kyF F ((M r).getD i 0) := by
                intro j hj
                have h1 : kyF F (P.getD (k - 1) 0) < kyF F ((M r).getD i 0) := by
                  have h2 : ¬ kyF F ((M r).getD i 0) < kyF F (P.getD (k - 1) 0) := by
                    first
                      | (exfalso; omega)
                      | exact of_decide_eq_false c45
                  have h3 : kyF F (P.getD (k - 1) 0) ≠ kyF F ((M r).getD i 0) := fun e => hPne (k - 1) (by omega) (kyF_inj (hPv (k - 1) (by omega)) hvM e)
                  omega
                by_cases q : j = k - 1
                · rw [q]; exact h1
                · exact Nat.lt_trans (b3 j (k - 1) (by omega) (by omega)) h1
              refine V_aload_n (pc' := 65) hX dX8_sort_64 rfl rfl ?_
              refine V_iload (pc' := 67) hX dX8_sort_65 rfl rfl ?_
              refine V_iload (pc' := 69) hX dX8_sort_67 rfl rfl ?_
              refine V_iastN (pc' := 70) hX dX8_sort_69 hM.2.2.2.2.2.2.2.2.1 (by omega) (by omega) rfl ?_
              refine V.gen (fun h4 eh4 => ?_)
              have f9 := fr.of_up eh4
              have hM := hM.u8 (up_at eh4) f9
              refine V_iincN (pc' := 73) (j := 1) (lv' := [_, _, _, _, _, _]) hX dX8_sort_70 rfl rfl rfl rfl ?_
              refine V_goto (pc' := 2) hX dX8_sort_73 rfl ?_
              refine V.loc2 (lv' := [some _, some _, some _, some _, none, none]) ⟨rfl, rfl, rfl, rfl, trivial⟩ ?_
              exact ihO (i + 1) _ _ (P.take k ++ ((M r).getD i 0) :: P.drop k) (by omega) (by
                rw [take_s (by omega)]
                exact ((ins_perm P _ k).trans ((List.Perm.cons _ b2).trans (List.perm_append_singleton _ _).symm))) (ins_srt b3 (by omega) hlt (fun j a b => e4 j a (by omega))) (fun j hj => by
                rw [ins_getD (by omega) (by omega)]
                rcases Nat.lt_trichotomy j k with q | q | q
                · rw [if_pos q, vu_ne _ _ (by omega)]; exact e2 j q
                · rw [if_neg (by omega), if_pos q, q, vu_at]
                · rw [if_neg (by omega), if_neg (by omega), vu_ne _ _ (by omega)]; exact e3 j q (by omega)) (e5.tr f9) hM (by omega)
            · refine V_aload_n (pc' := 34) hX dX8_sort_33 rfl rfl ?_
              refine V_iload (pc' := 36) hX dX8_sort_34 rfl rfl ?_
              refine V_aload_n (pc' := 37) hX dX8_sort_36 rfl rfl ?_
              refine V_iload (pc' := 39) hX dX8_sort_37 rfl rfl ?_
              refine V_iconst (pc' := 40) (v := nI 1) hX dX8_sort_39 (by decide) rfl ?_
              refine V_isubN (pc' := 41) hX dX8_sort_40 (by omega) rfl ?_
              refine V_ialdN (pc' := 42) (v := nI (P.getD (k - 1) 0)) hX dX8_sort_41 hM.2.2.2.2.2.2.2.2.1 (by omega) (by omega) (by rw [e2 (k - 1) (by omega)]) rfl ?_
              refine V_callV (nA := 2) (pc' := 45) (k' := 0) (n' := 0) hX dX8_sort_42 (c_Md_isAhead ((M r).getD i 0) (P.getD (k - 1) 0) hvM (hPv (k - 1) (by omega)) hK hM) hM.1 rfl wM_X8_110 wI_X8_isAhead wL_X8_isAhead wN_X8 wC_X8_isAhead rfl hy_X8_isAhead rfl (Nat.le_of_ble_eq_true rfl) (by decide) (by omega) rfl rfl (by omega) rfl (by omega) rfl ?_
              rintro _ z h3 ⟨rfl, rfl, rfl⟩
              refine V.stk (st' := [_]) rfl ?_
              refine V_if_eqB (pt := 64) (pc' := 48) hX dX8_sort_45 rfl rfl (fun c45 => ?_) (fun c45 => ?_)
              · have hlt : ∀ j, j < k → kyF F (P.getD j 0) < kyF F ((M r).getD i 0) := by
                  intro j hj
                  have h1 : kyF F (P.getD (k - 1) 0) < kyF F ((M r).getD i 0) := by
                    have h2 : ¬ kyF F ((M r).getD i 0) < kyF F (P.getD (k - 1) 0) := by
                      first
                        | (exfalso; omega)
                        | exact of_decide_eq_false c45
                    have h3 : kyF F (P.getD (k - 1) 0) ≠ kyF F ((M r).getD i 0) := fun e => hPne (k - 1) (by omega) (kyF_inj (hPv (k - 1) (by omega)) hvM e)
                    omega
                  by_cases q : j = k - 1
                  · rw [q]; exact h1
                  · exact Nat.lt_trans (b3 j (k - 1) (by omega) (by omega)) h1
                refine V_aload_n (pc' := 65) hX dX8_sort_64 rfl rfl ?_
                refine V_iload (pc' := 67) hX dX8_sort_65 rfl rfl ?_
                refine V_iload (pc' := 69) hX dX8_sort_67 rfl rfl ?_
                refine V_iastN (pc' := 70) hX dX8_sort_69 hM.2.2.2.2.2.2.2.2.1 (by omega) (by omega) rfl ?_
                refine V.gen (fun h4 eh4 => ?_)
                have f9 := fr.of_up eh4
                have hM := hM.u8 (up_at eh4) f9
                refine V_iincN (pc' := 73) (j := 1) (lv' := [_, _, _, _, _, _]) hX dX8_sort_70 rfl rfl rfl rfl ?_
                refine V_goto (pc' := 2) hX dX8_sort_73 rfl ?_
                refine V.loc2 (lv' := [some _, some _, some _, some _, none, none]) ⟨rfl, rfl, rfl, rfl, trivial⟩ ?_
                exact ihO (i + 1) _ _ (P.take k ++ ((M r).getD i 0) :: P.drop k) (by omega) (by
                  rw [take_s (by omega)]
                  exact ((ins_perm P _ k).trans ((List.Perm.cons _ b2).trans (List.perm_append_singleton _ _).symm))) (ins_srt b3 (by omega) hlt (fun j a b => e4 j a (by omega))) (fun j hj => by
                  rw [ins_getD (by omega) (by omega)]
                  rcases Nat.lt_trichotomy j k with q | q | q
                  · rw [if_pos q, vu_ne _ _ (by omega)]; exact e2 j q
                  · rw [if_neg (by omega), if_pos q, q, vu_at]
                  · rw [if_neg (by omega), if_neg (by omega), vu_ne _ _ (by omega)]; exact e3 j q (by omega)) (e5.tr f9) hM (by omega)
              · refine V_aload_n (pc' := 49) hX dX8_sort_48 rfl rfl ?_
                refine V_iload (pc' := 51) hX dX8_sort_49 rfl rfl ?_
                refine V_aload_n (pc' := 52) hX dX8_sort_51 rfl rfl ?_
                refine V_iload (pc' := 54) hX dX8_sort_52 rfl rfl ?_
                refine V_iconst (pc' := 55) (v := nI 1) hX dX8_sort_54 (by decide) rfl ?_
                refine V_isubN (pc' := 56) hX dX8_sort_55 (by omega) rfl ?_
                refine V_ialdN (pc' := 57) (v := nI (P.getD (k - 1) 0)) hX dX8_sort_56 hM.2.2.2.2.2.2.2.2.1 (by omega) (by omega) (by rw [e2 (k - 1) (by omega)]) rfl ?_
                refine V_iastN (pc' := 58) hX dX8_sort_57 hM.2.2.2.2.2.2.2.2.1 (by omega) (by omega) rfl ?_
                refine V.gen (fun h4 eh4 => ?_)
                have f8 := fr.of_up eh4
                have hM := hM.u8 (up_at eh4) f8
                refine V_iinc (pc' := 61) (lv' := [_, _, _, _, _, _]) (v := nI (k - 1)) hX dX8_sort_58 rfl (nI_dec (by omega)) rfl rfl ?_
                refine V_goto (pc' := 28) hX dX8_sort_61 rfl ?_
                exact ih (k - 1) _ _ (by omega) (fun j hj => by rw [vu_ne _ _ (by omega)]; exact e2 j (by omega)) (fun j a b => by
                  by_cases q : j = k
                  · rw [q, vu_at]
                  · rw [vu_ne _ _ q]; exact e3 j (by omega) b) (fun j a b => by
                  by_cases q : j = k - 1
                  · rw [q]; exact of_decide_eq_true c45
                  · exact e4 j (by omega) b) (e5.tr f8) hM (by omega)
        exact lq (i + 1) i h2 o2 (by omega) b4 (fun j a b => by omega) (fun j a b => by omega) b5 hM (by omega)
  refine V.loc2 (lv' := [some _, some _, some _, some _, none, none]) ⟨rfl, rfl, rfl, rfl, trivial⟩ ?_
  exact lp ((M r).length + 1) 0 h on [] (by omega) (by rw [List.take_zero]) (fun i j _ hj => by simp at hj) (fun j hj => by omega) fr.rf hM (by omega)
set_option maxRecDepth 100000 in
set_option maxHeartbeats 4000000 in
theorem c_Md_sort2 {G : Gd} {z : Nat} {h : AH} {y : Nat} {th : Int32} {mk : Nat} {ts : Nat} {fs : Nat} {kd : Nat} {p : Nat} {q : Nat} {len : Nat} {ks : Nat} {fm : Nat} {cm : Nat} {be : Nat} {dz : Nat → Bool} {mn : Nat → Nat} {st : Nat → Nat} {tn : Nat → Nat} {tv : Nat → Nat} {fn : Nat → Nat} {fv : Nat → Nat} {on : Nat → Nat} {tw : Nat → Nat} {bf : Nat → Nat} {g1 : Nat → Nat} {g2 : Nat → Nat} {g3 : Nat → Nat} {sv : Nat → Nat} {fa : Nat → Int32} {fy : Nat → Nat} {bs : Nat → Nat} {cf : Nat → Nat} {av : Nat → Bool} {M L : Nat → List Nat} {W F : Nat → Nat} (r : Nat) (hr : av r = true) (hI : mdI mk ts fs kd p q av M L W F dz mn st tn tv fn fv) (hM : mdC G h y th mk ts fs kd p q len ks fm cm be dz mn st tn tv fn fv on tw bf g1 g2 g3 sv fa fy bs cf)  : Ct G yX8_sort cX8_sort 6 none 2 0 0 [.ref y, .int (nI r), .ref (y + 9)] z h (fun r' z' h' => r' = none ∧ z' = z ∧ fr (y + 9) (y + 10) h h' ∧ ∃ o', (∀ j, j < (L r).length → o' j = (L r).getD j 0) ∧ mdC G h' y th mk ts fs kd p q len ks fm cm be dz mn st tn tv fn fv on (o') bf g1 g2 g3 sv fa fy bs cf) := by
  refine Ct.of (lv := [_, _, _, _, _, _]) (by decide) (Nat.le_of_ble_eq_true rfl) rfl ?_
  rintro X rfl hX hR hnm
  obtain ⟨⟨hmk, hav, hdz⟩, hS, hT, hK, hL, hmo, hemp⟩ := id hI
  have hrm := hav r hr
  obtain ⟨s1, s2, s3, s4, s5⟩ := hS r (by omega)
  obtain ⟨l1, l2⟩ := hL r hr
  refine V_iconst (pc' := 1) (v := nI 0) hX dX8_sort_0 (by decide) rfl ?_
  refine V_istore_n (pc' := 2) (lv' := [_, _, _, _, _, _]) hX dX8_sort_1 (Nat.le_of_ble_eq_true rfl) rfl rfl ?_
  have lp : ∀ (μ i : Nat) (h2 : AH) (o2 : Nat → Nat) (P : List Nat), i ≤ (M r).length → P.Perm ((M r).take i) → srt F P → (∀ j, j < i → o2 j = P.getD j 0) → fr (y + 9) (y + 10) h h2 → mdC X.G h2 y th mk ts fs kd p q len ks fm cm be dz mn st tn tv fn fv on (o2) bf g1 g2 g3 sv fa fy bs cf → (M r).length - i < μ → V X 0 0 z h2 2 [some (.ref y), some (.int (nI r)), some (.ref (y + 9)), some (.int (nI i)), none, none] [] := by
    intro μ
    induction μ with
    | zero => intros; omega
    | succ μ ih =>
      intro i h2 o2 P b1 b2 b3 b4 b5 hM b6
      have hPl : P.length = i := by rw [b2.length_eq, List.length_take]; omega
      refine V_iload_n (pc' := 3) hX dX8_sort_2 rfl rfl ?_
      refine V_aload_n (pc' := 4) hX dX8_sort_3 rfl rfl ?_
      refine V_get (pc' := 7) hX dX8_sort_4 hM.1 rfl inX8 3 (by decide) wF_X8_13 rfl rfl ?_
      refine V_iload_n (pc' := 8) hX dX8_sort_7 rfl rfl ?_
      refine V_ialdN (pc' := 9) (v := nI (M r).length) hX dX8_sort_8 hM.2.2.1 (by omega) (by omega) (by rw [s1]) rfl ?_
      refine V_icmp_geN (pt := 76) (pc' := 12) hX dX8_sort_9 (by omega) (by omega) rfl rfl (fun c9 => ?_) (fun c9 => ?_)
      · refine V_vret hX hR dX8_sort_76 ?_
        have ei : i = (M r).length := by omega
        subst ei
        rw [List.take_length] at b2
        have eP : P = L r := srt_uniq (fun v hv => s5 v (l1.mem_iff.mp hv)) (b2.trans l1.symm) b3 l2
        subst eP
        exact ⟨rfl, rfl, b5, o2, fun j hj => b4 j (by omega), hM⟩
      · refine V_aload_n (pc' := 13) hX dX8_sort_12 rfl rfl ?_
        refine V_get (pc' := 16) hX dX8_sort_13 hM.1 rfl inX8 4 (by decide) wF_X8_17 rfl rfl ?_
        refine V_bipush (pc' := 18) (v := nI 30) hX dX8_sort_16 (by decide) rfl ?_
        refine V_iload_n (pc' := 19) hX dX8_sort_18 rfl rfl ?_
        refine V_imulN (pc' := 20) hX dX8_sort_19 rfl ?_
        refine V_iload_n (pc' := 21) hX dX8_sort_20 rfl rfl ?_
        refine V_iaddN (pc' := 22) hX dX8_sort_21 rfl ?_
        refine V_ialdN (pc' := 23) (v := nI ((M r).getD i 0)) hX dX8_sort_22 hM.2.2.2.1 (by omega) (by omega) (by rw [s3 i (by omega)]) rfl ?_
        refine V_istore (pc' := 25) (lv' := [_, _, _, _, _, _]) hX dX8_sort_23 (Nat.le_of_ble_eq_true rfl) rfl rfl ?_
        have ihO := ih
        have hvM := s5 _ (getD_mem (L := M r) (j := i) (by omega))
        have hPv : ∀ j, j < i → P.getD j 0 < 1000000 := fun j hj => s5 _ (List.mem_of_mem_take (b2.mem_iff.mp (getD_mem (by omega))))
        have hPne : ∀ j, j < i → P.getD j 0 ≠ ((M r).getD i 0) := fun j hj e => by
          obtain ⟨i9, i1, i2⟩ := (mem_take (by omega)).mp (b2.mem_iff.mp (getD_mem (L := P) (j := j) (by omega)))
          exact nd_getD s4 i1 (by omega) (i2.trans e)
        refine V_iload_n (pc' := 26) hX dX8_sort_25 rfl rfl ?_
        refine V_istore (pc' := 28) (lv' := [_, _, _, _, _, _]) hX dX8_sort_26 (Nat.le_of_ble_eq_true rfl) rfl rfl ?_
        have lq : ∀ (ν k : Nat) (h3 : AH) (o3 : Nat → Nat), k ≤ i → (∀ j, j < k → o3 j = P.getD j 0) → (∀ j, k < j → j ≤ i → o3 j = P.getD (j - 1) 0) → (∀ j, k ≤ j → j < i → kyF F ((M r).getD i 0) < kyF F (P.getD j 0)) → fr (y + 9) (y + 10) h h3 → mdC X.G h3 y th mk ts fs kd p q len ks fm cm be dz mn st tn tv fn fv on (o3) bf g1 g2 g3 sv fa fy bs cf → k < ν → V X 0 0 z h3 28 [some (.ref y), some (.int (nI r)), some (.ref (y + 9)), some (.int (nI i)), some (.int (nI ((M r).getD i 0))), some (.int (nI k))] [] := by
          intro μ
          induction μ with
          | zero => intros; omega
          | succ μ ih =>
            intro k h3 o3 e1 e2 e3 e4 e5 hM e6
            refine V_iload (pc' := 30) hX dX8_sort_28 rfl rfl ?_
            refine V_if_leN (pt := 64) (pc' := 33) hX dX8_sort_30 (by omega) rfl rfl (fun c30 => ?_) (fun c30 => ?_)
            · have hlt : ∀ j, j < k → kyF F (P.getD j 0) < kyF F ((M r).getD i 0) := by
                intro j hj
                have h1 : kyF F (P.getD (k - 1) 0) < kyF F ((M r).getD i 0) := by
                  have h2 : ¬ kyF F ((M r).getD i 0) < kyF F (P.getD (k - 1) 0) := by
                    first
                      | (exfalso; omega)
                      | exact of_decide_eq_false c45
                  have h3 : kyF F (P.getD (k - 1) 0) ≠ kyF F ((M r).getD i 0) := fun e => hPne (k - 1) (by omega) (kyF_inj (hPv (k - 1) (by omega)) hvM e)
                  omega
                by_cases q : j = k - 1
                · rw [q]; exact h1
                · exact Nat.lt_trans (b3 j (k - 1) (by omega) (by omega)) h1
              refine V_aload_n (pc' := 65) hX dX8_sort_64 rfl rfl ?_
              refine V_iload (pc' := 67) hX dX8_sort_65 rfl rfl ?_
              refine V_iload (pc' := 69) hX dX8_sort_67 rfl rfl ?_
              refine V_iastN (pc' := 70) hX dX8_sort_69 hM.2.2.2.2.2.2.2.2.2.1 (by omega) (by omega) rfl ?_
              refine V.gen (fun h4 eh4 => ?_)
              have f9 := fr.of_up eh4
              have hM := hM.u9 (up_at eh4) f9
              refine V_iincN (pc' := 73) (j := 1) (lv' := [_, _, _, _, _, _]) hX dX8_sort_70 rfl rfl rfl rfl ?_
              refine V_goto (pc' := 2) hX dX8_sort_73 rfl ?_
              refine V.loc2 (lv' := [some _, some _, some _, some _, none, none]) ⟨rfl, rfl, rfl, rfl, trivial⟩ ?_
              exact ihO (i + 1) _ _ (P.take k ++ ((M r).getD i 0) :: P.drop k) (by omega) (by
                rw [take_s (by omega)]
                exact ((ins_perm P _ k).trans ((List.Perm.cons _ b2).trans (List.perm_append_singleton _ _).symm))) (ins_srt b3 (by omega) hlt (fun j a b => e4 j a (by omega))) (fun j hj => by
                rw [ins_getD (by omega) (by omega)]
                rcases Nat.lt_trichotomy j k with q | q | q
                · rw [if_pos q, vu_ne _ _ (by omega)]; exact e2 j q
                · rw [if_neg (by omega), if_pos q, q, vu_at]
                · rw [if_neg (by omega), if_neg (by omega), vu_ne _ _ (by omega)]; exact e3 j q (by omega)) (e5.tr f9) hM (by omega)
            · refine V_aload_n (pc' := 34) hX dX8_sort_33 rfl rfl ?_
              refine V_iload (pc' := 36) hX dX8_sort_34 rfl rfl ?_
              refine V_aload_n (pc' := 37) hX dX8_sort_36 rfl rfl ?_
              refine V_iload (pc' := 39) hX dX8_sort_37 rfl rfl ?_
              refine V_iconst (pc' := 40) (v := nI 1) hX dX8_sort_39 (by decide) rfl ?_
              refine V_isubN (pc' := 41) hX dX8_sort_40 (by omega) rfl ?_
              refine V_ialdN (pc' := 42) (v := nI (P.getD (k - 1) 0)) hX dX8_sort_41 hM.2.2.2.2.2.2.2.2.2.1 (by omega) (by omega) (by rw [e2 (k - 1) (by omega)]) rfl ?_
              refine V_callV (nA := 2) (pc' := 45) (k' := 0) (n' := 0) hX dX8_sort_42 (c_Md_isAhead ((M r).getD i 0) (P.getD (k - 1) 0) hvM (hPv (k - 1) (by omega)) hK hM) hM.1 rfl wM_X8_110 wI_X8_isAhead wL_X8_isAhead wN_X8 wC_X8_isAhead rfl hy_X8_isAhead rfl (Nat.le_of_ble_eq_true rfl) (by decide) (by omega) rfl rfl (by omega) rfl (by omega) rfl ?_
              rintro _ z h3 ⟨rfl, rfl, rfl⟩
              refine V.stk (st' := [_]) rfl ?_
              refine V_if_eqB (pt := 64) (pc' := 48) hX dX8_sort_45 rfl rfl (fun c45 => ?_) (fun c45 => ?_)
              · have hlt : ∀ j, j < k → kyF F (P.getD j 0) < kyF F ((M r).getD i 0) := by
                  intro j hj
                  have h1 : kyF F (P.getD (k - 1) 0) < kyF F ((M r).getD i 0) := by
                    have h2 : ¬ kyF F ((M r).getD i 0) < kyF F (P.getD (k - 1) 0) := by
                      first
                        | (exfalso; omega)
                        | exact of_decide_eq_false c45
                    have h3 : kyF F (P.getD (k - 1) 0) ≠ kyF F ((M r).getD i 0) := fun e => hPne (k - 1) (by omega) (kyF_inj (hPv (k - 1) (by omega)) hvM e)
                    omega
                  by_cases q : j = k - 1
                  · rw [q]; exact h1
                  · exact Nat.lt_trans (b3 j (k - 1) (by omega) (by omega)) h1
                refine V_aload_n (pc' := 65) hX dX8_sort_64 rfl rfl ?_
                refine V_iload (pc' := 67) hX dX8_sort_65 rfl rfl ?_
                refine V_iload (pc' := 69) hX dX8_sort_67 rfl rfl ?_
                refine V_iastN (pc' := 70) hX dX8_sort_69 hM.2.2.2.2.2.2.2.2.2.1 (by omega) (by omega) rfl ?_
                refine V.gen (fun h4 eh4 => ?_)
                have f9 := fr.of_up eh4
                have hM := hM.u9 (up_at eh4) f9
                refine V_iincN (pc' := 73) (j := 1) (lv' := [_, _, _, _, _, _]) hX dX8_sort_70 rfl rfl rfl rfl ?_
                refine V_goto (pc' := 2) hX dX8_sort_73 rfl ?_
                refine V.loc2 (lv' := [some _, some _, some _, some _, none, none]) ⟨rfl, rfl, rfl, rfl, trivial⟩ ?_
                exact ihO (i + 1) _ _ (P.take k ++ ((M r).getD i 0) :: P.drop k) (by omega) (by
                  rw [take_s (by omega)]
                  exact ((ins_perm P _ k).trans ((List.Perm.cons _ b2).trans (List.perm_append_singleton _ _).symm))) (ins_srt b3 (by omega) hlt (fun j a b => e4 j a (by omega))) (fun j hj => by
                  rw [ins_getD (by omega) (by omega)]
                  rcases Nat.lt_trichotomy j k with q | q | q
                  · rw [if_pos q, vu_ne _ _ (by omega)]; exact e2 j q
                  · rw [if_neg (by omega), if_pos q, q, vu_at]
                  · rw [if_neg (by omega), if_neg (by omega), vu_ne _ _ (by omega)]; exact e3 j q (by omega)) (e5.tr f9) hM (by omega)
              · refine V_aload_n (pc' := 49) hX dX8_sort_48 rfl rfl ?_
                refine V_iload (pc' := 51) hX dX8_sort_49 rfl rfl ?_
                refine V_aload_n (pc' := 52) hX dX8_sort_51 rfl rfl ?_
                refine V_iload (pc' := 54) hX dX8_sort_52 rfl rfl ?_
                refine V_iconst (pc' := 55) (v := nI 1) hX dX8_sort_54 (by decide) rfl ?_
                refine V_isubN (pc' := 56) hX dX8_sort_55 (by omega) rfl ?_
                refine V_ialdN (pc' := 57) (v := nI (P.getD (k - 1) 0)) hX dX8_sort_56 hM.2.2.2.2.2.2.2.2.2.1 (by omega) (by omega) (by rw [e2 (k - 1) (by omega)]) rfl ?_
                refine V_iastN (pc' := 58) hX dX8_sort_57 hM.2.2.2.2.2.2.2.2.2.1 (by omega) (by omega) rfl ?_
                refine V.gen (fun h4 eh4 => ?_)
                have f8 := fr.of_up eh4
                have hM := hM.u9 (up_at eh4) f8
                refine V_iinc (pc' := 61) (lv' := [_, _, _, _, _, _]) (v := nI (k - 1)) hX dX8_sort_58 rfl (nI_dec (by omega)) rfl rfl ?_
                refine V_goto (pc' := 28) hX dX8_sort_61 rfl ?_
                exact ih (k - 1) _ _ (by omega) (fun j hj => by rw [vu_ne _ _ (by omega)]; exact e2 j (by omega)) (fun j a b => by
                  by_cases q : j = k
                  · rw [q, vu_at]
                  · rw [vu_ne _ _ q]; exact e3 j (by omega) b) (fun j a b => by
                  by_cases q : j = k - 1
                  · rw [q]; exact of_decide_eq_true c45
                  · exact e4 j (by omega) b) (e5.tr f8) hM (by omega)
        exact lq (i + 1) i h2 o2 (by omega) b4 (fun j a b => by omega) (fun j a b => by omega) b5 hM (by omega)
  refine V.loc2 (lv' := [some _, some _, some _, some _, none, none]) ⟨rfl, rfl, rfl, rfl, trivial⟩ ?_
  exact lp ((M r).length + 1) 0 h tw [] (by omega) (by rw [List.take_zero]) (fun i j _ hj => by simp at hj) (fun j hj => by omega) fr.rf hM (by omega)
set_option maxRecDepth 100000 in
set_option maxHeartbeats 4000000 in
theorem c_Md_amount {G : Gd} {z : Nat} {h : AH} {y : Nat} {th : Int32} {mk : Nat} {ts : Nat} {fs : Nat} {kd : Nat} {p : Nat} {q : Nat} {len : Nat} {ks : Nat} {fm : Nat} {cm : Nat} {be : Nat} {dz : Nat → Bool} {mn : Nat → Nat} {st : Nat → Nat} {tn : Nat → Nat} {tv : Nat → Nat} {fn : Nat → Nat} {fv : Nat → Nat} {on : Nat → Nat} {tw : Nat → Nat} {bf : Nat → Nat} {g1 : Nat → Nat} {g2 : Nat → Nat} {g3 : Nat → Nat} {sv : Nat → Nat} {fa : Nat → Int32} {fy : Nat → Nat} {bs : Nat → Nat} {cf : Nat → Nat} {W o9 : Nat → Nat} (a i : Nat) (Q : List Nat) (ha : h a = some (aI G 30 o9)) (hQ : ∀ j, j < Q.length → o9 j = Q.getD j 0) (hQl : Q.length ≤ 30) (hQv : ∀ v, v ∈ Q → v < 1000000) (hi : i ≤ Q.length) (hT : mTok kd ts tn tv W) (hkd : kd ≤ 5) (hM : mdC G h y th mk ts fs kd p q len ks fm cm be dz mn st tn tv fn fv on tw bf g1 g2 g3 sv fa fy bs cf)  : Ct G yX8_amount cX8_amount 6 (some .int) 1 0 0 [.ref y, .ref a, .int (nI i), .int (nI Q.length)] z h (fun r' z' h' => r' = some (.int (nI (amL W (Q.drop i)))) ∧ z' = z ∧ h' = h) := by
  refine Ct.of (lv := [_, _, _, _, _, _]) (by decide) (Nat.le_of_ble_eq_true rfl) rfl ?_
  rintro X rfl hX hR hnm
  refine V_iconst (pc' := 1) (v := nI 0) hX dX8_amount_0 (by decide) rfl ?_
  refine V_istore (pc' := 3) (lv' := [_, _, _, _, _, _]) hX dX8_amount_1 (Nat.le_of_ble_eq_true rfl) rfl rfl ?_
  refine V_iload_n (pc' := 4) hX dX8_amount_3 rfl rfl ?_
  refine V_istore (pc' := 6) (lv' := [_, _, _, _, _, _]) hX dX8_amount_4 (Nat.le_of_ble_eq_true rfl) rfl rfl ?_
  have lp : ∀ (μ j s : Nat), i ≤ j → j ≤ Q.length → s + amL W (Q.drop j) = amL W (Q.drop i) → Q.length - j < μ → V X 0 0 z h 6 [some (.ref y), some (.ref a), some (.int (nI i)), some (.int (nI Q.length)), some (.int (nI s)), some (.int (nI j))] [] := by
    intro μ
    induction μ with
    | zero => intros; omega
    | succ μ ih =>
      intro j s b1 b2 b3 b4
      refine V_iload (pc' := 8) hX dX8_amount_6 rfl rfl ?_
      refine V_iload_n (pc' := 9) hX dX8_amount_8 rfl rfl ?_
      refine V_icmp_geN (pt := 31) (pc' := 12) hX dX8_amount_9 (by omega) (by omega) rfl rfl (fun c9 => ?_) (fun c9 => ?_)
      · refine V_iload (pc' := 33) hX dX8_amount_31 rfl rfl ?_
        refine V_iret hX hR dX8_amount_33 ?_
        have ej : j = Q.length := by omega
        rw [ej, List.drop_length, amL_nil] at b3
        rw [← b3]
        exact ⟨rfl, rfl, rfl⟩
      · refine V_iload (pc' := 14) hX dX8_amount_12 rfl rfl ?_
        refine V_aload_n (pc' := 15) hX dX8_amount_14 rfl rfl ?_
        refine V_aload_n (pc' := 16) hX dX8_amount_15 rfl rfl ?_
        refine V_iload (pc' := 18) hX dX8_amount_16 rfl rfl ?_
        refine V_ialdN (pc' := 19) (v := nI (Q.getD j 0)) hX dX8_amount_18 ha (by omega) (by omega) (by rw [hQ j (by omega)]) rfl ?_
        refine V_callV (nA := 1) (pc' := 22) (k' := 0) (n' := 0) hX dX8_amount_19 (c_Md_weightOf (Q.getD j 0) (hQv _ (getD_mem (by omega))) hT hkd hM) hM.1 rfl wM_X8_114 wI_X8_weightOf wL_X8_weightOf wN_X8 wC_X8_weightOf rfl hy_X8_weightOf rfl (Nat.le_of_ble_eq_true rfl) (by decide) (by omega) rfl rfl (by omega) rfl (by omega) rfl ?_
        rintro _ z h ⟨rfl, rfl, rfl⟩
        refine V.stk (st' := [_, _]) rfl ?_
        refine V_iaddN (pc' := 23) hX dX8_amount_22 rfl ?_
        refine V_istore (pc' := 25) (lv' := [_, _, _, _, _, _]) hX dX8_amount_23 (Nat.le_of_ble_eq_true rfl) rfl rfl ?_
        refine V_iincN (pc' := 28) (j := 1) (lv' := [_, _, _, _, _, _]) hX dX8_amount_25 rfl rfl rfl rfl ?_
        refine V_goto (pc' := 6) hX dX8_amount_28 rfl ?_
        have hda := drop_am (w := W) (Q := Q) (j := j) (by omega)
        exact ih (j + 1) _ (by omega) (by omega) (by omega) (by omega)
  exact lp (Q.length + 1) i 0 (by omega) hi (by omega) (by omega)
set_option maxRecDepth 100000 in
set_option maxHeartbeats 4000000 in
theorem c_Md_amountOf {G : Gd} {z : Nat} {h : AH} {y : Nat} {th : Int32} {mk : Nat} {ts : Nat} {fs : Nat} {kd : Nat} {p : Nat} {q : Nat} {len : Nat} {ks : Nat} {fm : Nat} {cm : Nat} {be : Nat} {dz : Nat → Bool} {mn : Nat → Nat} {st : Nat → Nat} {tn : Nat → Nat} {tv : Nat → Nat} {fn : Nat → Nat} {fv : Nat → Nat} {on : Nat → Nat} {tw : Nat → Nat} {bf : Nat → Nat} {g1 : Nat → Nat} {g2 : Nat → Nat} {g3 : Nat → Nat} {sv : Nat → Nat} {fa : Nat → Int32} {fy : Nat → Nat} {bs : Nat → Nat} {cf : Nat → Nat} {av : Nat → Bool} {M L : Nat → List Nat} {W F : Nat → Nat} (r : Nat) (hr : av r = true) (hI : mdI mk ts fs kd p q av M L W F dz mn st tn tv fn fv) (hM : mdC G h y th mk ts fs kd p q len ks fm cm be dz mn st tn tv fn fv on tw bf g1 g2 g3 sv fa fy bs cf)  : Ct G yX8_amountOf cX8_amountOf 4 (some .int) 1 0 0 [.ref y, .int (nI r)] z h (fun r' z' h' => r' = some (.int (nI (amL W (L r)))) ∧ z' = z ∧ h' = h) := by
  refine Ct.of (lv := [_, _, _, _]) (by decide) (Nat.le_of_ble_eq_true rfl) rfl ?_
  rintro X rfl hX hR hnm
  obtain ⟨⟨hmk, hav, hdz⟩, hS, hT, hK, hL, hmo, hemp⟩ := id hI
  have hrm := hav r hr
  obtain ⟨s1, s2, s3, s4, s5⟩ := hS r (by omega)
  obtain ⟨l1, l2⟩ := hL r hr
  refine V_iconst (pc' := 1) (v := nI 0) hX dX8_amountOf_0 (by decide) rfl ?_
  refine V_istore_n (pc' := 2) (lv' := [_, _, _, _]) hX dX8_amountOf_1 (Nat.le_of_ble_eq_true rfl) rfl rfl ?_
  refine V_iconst (pc' := 3) (v := nI 0) hX dX8_amountOf_2 (by decide) rfl ?_
  refine V_istore_n (pc' := 4) (lv' := [_, _, _, _]) hX dX8_amountOf_3 (Nat.le_of_ble_eq_true rfl) rfl rfl ?_
  have lp : ∀ (μ j s : Nat), j ≤ (M r).length → s + amL W ((M r).drop j) = amL W (M r) → (M r).length - j < μ → V X 0 0 z h 4 [some (.ref y), some (.int (nI r)), some (.int (nI s)), some (.int (nI j))] [] := by
    intro μ
    induction μ with
    | zero => intros; omega
    | succ μ ih =>
      intro j s b2 b3 b4
      refine V_iload_n (pc' := 5) hX dX8_amountOf_4 rfl rfl ?_
      refine V_aload_n (pc' := 6) hX dX8_amountOf_5 rfl rfl ?_
      refine V_get (pc' := 9) hX dX8_amountOf_6 hM.1 rfl inX8 3 (by decide) wF_X8_13 rfl rfl ?_
      refine V_iload_n (pc' := 10) hX dX8_amountOf_9 rfl rfl ?_
      refine V_ialdN (pc' := 11) (v := nI (M r).length) hX dX8_amountOf_10 hM.2.2.1 (by omega) (by omega) (by rw [s1]) rfl ?_
      refine V_icmp_geN (pt := 38) (pc' := 14) hX dX8_amountOf_11 (by omega) (by omega) rfl rfl (fun c11 => ?_) (fun c11 => ?_)
      · refine V_iload_n (pc' := 39) hX dX8_amountOf_38 rfl rfl ?_
        refine V_iret hX hR dX8_amountOf_39 ?_
        have ej : j = (M r).length := by omega
        rw [ej, List.drop_length, amL_nil] at b3
        rw [amL_perm l1, ← b3]
        exact ⟨rfl, rfl, rfl⟩
      · refine V_iload_n (pc' := 15) hX dX8_amountOf_14 rfl rfl ?_
        refine V_aload_n (pc' := 16) hX dX8_amountOf_15 rfl rfl ?_
        refine V_aload_n (pc' := 17) hX dX8_amountOf_16 rfl rfl ?_
        refine V_get (pc' := 20) hX dX8_amountOf_17 hM.1 rfl inX8 4 (by decide) wF_X8_17 rfl rfl ?_
        refine V_bipush (pc' := 22) (v := nI 30) hX dX8_amountOf_20 (by decide) rfl ?_
        refine V_iload_n (pc' := 23) hX dX8_amountOf_22 rfl rfl ?_
        refine V_imulN (pc' := 24) hX dX8_amountOf_23 rfl ?_
        refine V_iload_n (pc' := 25) hX dX8_amountOf_24 rfl rfl ?_
        refine V_iaddN (pc' := 26) hX dX8_amountOf_25 rfl ?_
        refine V_ialdN (pc' := 27) (v := nI ((M r).getD j 0)) hX dX8_amountOf_26 hM.2.2.2.1 (by omega) (by omega) (by rw [s3 j (by omega)]) rfl ?_
        refine V_callV (nA := 1) (pc' := 30) (k' := 0) (n' := 0) hX dX8_amountOf_27 (c_Md_weightOf ((M r).getD j 0) (s5 _ (getD_mem (by omega))) hT hmo.1 hM) hM.1 rfl wM_X8_114 wI_X8_weightOf wL_X8_weightOf wN_X8 wC_X8_weightOf rfl hy_X8_weightOf rfl (Nat.le_of_ble_eq_true rfl) (by decide) (by omega) rfl rfl (by omega) rfl (by omega) rfl ?_
        rintro _ z h ⟨rfl, rfl, rfl⟩
        refine V.stk (st' := [_, _]) rfl ?_
        refine V_iaddN (pc' := 31) hX dX8_amountOf_30 rfl ?_
        refine V_istore_n (pc' := 32) (lv' := [_, _, _, _]) hX dX8_amountOf_31 (Nat.le_of_ble_eq_true rfl) rfl rfl ?_
        refine V_iincN (pc' := 35) (j := 1) (lv' := [_, _, _, _]) hX dX8_amountOf_32 rfl rfl rfl rfl ?_
        refine V_goto (pc' := 4) hX dX8_amountOf_35 rfl ?_
        have hda := drop_am (w := W) (Q := M r) (j := j) (by omega)
        exact ih (j + 1) _ (by omega) (by omega) (by omega)
  exact lp ((M r).length + 1) 0 0 (by omega) (by rw [List.drop_zero]; omega) (by omega)
set_option maxRecDepth 100000 in
set_option maxHeartbeats 4000000 in
theorem c_Md_shared {G : Gd} {z : Nat} {h : AH} {y : Nat} {th : Int32} {mk : Nat} {ts : Nat} {fs : Nat} {kd : Nat} {p : Nat} {q : Nat} {len : Nat} {ks : Nat} {fm : Nat} {cm : Nat} {be : Nat} {dz : Nat → Bool} {mn : Nat → Nat} {st : Nat → Nat} {tn : Nat → Nat} {tv : Nat → Nat} {fn : Nat → Nat} {fv : Nat → Nat} {on : Nat → Nat} {tw : Nat → Nat} {bf : Nat → Nat} {g1 : Nat → Nat} {g2 : Nat → Nat} {g3 : Nat → Nat} {sv : Nat → Nat} {fa : Nat → Int32} {fy : Nat → Nat} {bs : Nat → Nat} {cf : Nat → Nat} {av : Nat → Bool} {M L : Nat → List Nat} {W F : Nat → Nat} (r s : Nat) (hr : av r = true) (hs : av s = true) (hI : mdI mk ts fs kd p q av M L W F dz mn st tn tv fn fv) (hM : mdC G h y th mk ts fs kd p q len ks fm cm be dz mn st tn tv fn fv on tw bf g1 g2 g3 sv fa fy bs cf)  : Ct G yX8_shared cX8_shared 5 (some .int) 1 0 0 [.ref y, .int (nI r), .int (nI s)] z h (fun r' z' h' => r' = some (.int (nI (shL W (L r) (L s)))) ∧ z' = z ∧ h' = h) := by
  refine Ct.of (lv := [_, _, _, _, _]) (by decide) (Nat.le_of_ble_eq_true rfl) rfl ?_
  rintro X rfl hX hR hnm
  obtain ⟨⟨hmk, hav, hdz⟩, hS, hT, hK, hL, hmo, hemp⟩ := id hI
  have hrm := hav r hr
  have hsm := hav s hs
  obtain ⟨s1, s2, s3, s4, s5⟩ := hS r (by omega)
  obtain ⟨l1, l2⟩ := hL r hr
  obtain ⟨n1, n2⟩ := hL s hs
  have u5 := (hS s (by omega)).2.2.2.2
  refine V_iconst (pc' := 1) (v := nI 0) hX dX8_shared_0 (by decide) rfl ?_
  refine V_istore_n (pc' := 2) (lv' := [_, _, _, _, _]) hX dX8_shared_1 (Nat.le_of_ble_eq_true rfl) rfl rfl ?_
  refine V_iconst (pc' := 3) (v := nI 0) hX dX8_shared_2 (by decide) rfl ?_
  refine V_istore (pc' := 5) (lv' := [_, _, _, _, _]) hX dX8_shared_3 (Nat.le_of_ble_eq_true rfl) rfl rfl ?_
  have lp : ∀ (μ j u : Nat), j ≤ (M r).length → u + shL W ((M r).drop j) (M s) = shL W (M r) (M s) → (M r).length - j < μ → V X 0 0 z h 5 [some (.ref y), some (.int (nI r)), some (.int (nI s)), some (.int (nI u)), some (.int (nI j))] [] := by
    intro μ
    induction μ with
    | zero => intros; omega
    | succ μ ih =>
      intro j u b2 b3 b4
      refine V_iload (pc' := 7) hX dX8_shared_5 rfl rfl ?_
      refine V_aload_n (pc' := 8) hX dX8_shared_7 rfl rfl ?_
      refine V_get (pc' := 11) hX dX8_shared_8 hM.1 rfl inX8 3 (by decide) wF_X8_13 rfl rfl ?_
      refine V_iload_n (pc' := 12) hX dX8_shared_11 rfl rfl ?_
      refine V_ialdN (pc' := 13) (v := nI (M r).length) hX dX8_shared_12 hM.2.2.1 (by omega) (by omega) (by rw [s1]) rfl ?_
      refine V_icmp_geN (pt := 62) (pc' := 16) hX dX8_shared_13 (by omega) (by omega) rfl rfl (fun c13 => ?_) (fun c13 => ?_)
      · refine V_iload_n (pc' := 63) hX dX8_shared_62 rfl rfl ?_
        refine V_iret hX hR dX8_shared_63 ?_
        have ej : j = (M r).length := by omega
        rw [ej, List.drop_length, show shL W [] (M s) = 0 from rfl] at b3
        rw [shL_perm l1 n1, ← b3]
        exact ⟨rfl, rfl, rfl⟩
      · refine V_aload_n (pc' := 17) hX dX8_shared_16 rfl rfl ?_
        refine V_iload_n (pc' := 18) hX dX8_shared_17 rfl rfl ?_
        refine V_aload_n (pc' := 19) hX dX8_shared_18 rfl rfl ?_
        refine V_get (pc' := 22) hX dX8_shared_19 hM.1 rfl inX8 4 (by decide) wF_X8_17 rfl rfl ?_
        refine V_bipush (pc' := 24) (v := nI 30) hX dX8_shared_22 (by decide) rfl ?_
        refine V_iload_n (pc' := 25) hX dX8_shared_24 rfl rfl ?_
        refine V_imulN (pc' := 26) hX dX8_shared_25 rfl ?_
        refine V_iload (pc' := 28) hX dX8_shared_26 rfl rfl ?_
        refine V_iaddN (pc' := 29) hX dX8_shared_28 rfl ?_
        refine V_ialdN (pc' := 30) (v := nI ((M r).getD j 0)) hX dX8_shared_29 hM.2.2.2.1 (by omega) (by omega) (by rw [s3 j (by omega)]) rfl ?_
        refine V_callV (nA := 2) (pc' := 33) (k' := 0) (n' := 0) hX dX8_shared_30 (c_Md_place s (nI ((M r).getD j 0)) (by omega) hS hM) hM.1 rfl wM_X8_93 wI_X8_place wL_X8_place wN_X8 wC_X8_place rfl hy_X8_place rfl (Nat.le_of_ble_eq_true rfl) (by decide) (by omega) rfl rfl (by omega) rfl (by omega) rfl ?_
        rintro _ z h ⟨w, rfl, rfl, rfl, hw⟩
        have hvM := s5 _ (getD_mem (L := M r) (j := j) (by omega))
        refine V.stk (st' := [_]) rfl ?_
        refine V_iconst (pc' := 34) (v := (-1)) hX dX8_shared_33 (by decide) rfl ?_
        refine V_icmp_eq (pt := 56) (pc' := 37) hX dX8_shared_34 rfl rfl (fun c34 => ?_) (fun c34 => ?_)
        · have hin : ¬ (M r).getD j 0 ∈ M s := fun hm => by
            rcases hw with ⟨-, hw⟩ | ⟨hw, -⟩
            · exact hw _ hm rfl
            · exact hw c34
          refine V_iincN (pc' := 59) (j := 1) (lv' := [_, _, _, _, _]) hX dX8_shared_56 rfl rfl rfl rfl ?_
          refine V_goto (pc' := 5) hX dX8_shared_59 rfl ?_
          have hds := drop_sh (w := W) (Q := M r) (N := M s) (j := j) (by omega)
          first
            | (rw [if_pos hin] at hds; exact ih (j + 1) _ (by omega) (by omega) (by omega))
            | (rw [if_neg hin] at hds; exact ih (j + 1) _ (by omega) (by omega) (by omega))
        · have hin : (M r).getD j 0 ∈ M s := by
            rcases hw with ⟨hw, -⟩ | ⟨-, k, hk, e⟩
            · exact absurd hw c34
            · rw [nI_eq (by omega) (by have := u5 k hk; omega)] at e
              rw [e]; exact hk
          refine V_iload_n (pc' := 38) hX dX8_shared_37 rfl rfl ?_
          refine V_aload_n (pc' := 39) hX dX8_shared_38 rfl rfl ?_
          refine V_aload_n (pc' := 40) hX dX8_shared_39 rfl rfl ?_
          refine V_get (pc' := 43) hX dX8_shared_40 hM.1 rfl inX8 4 (by decide) wF_X8_17 rfl rfl ?_
          refine V_bipush (pc' := 45) (v := nI 30) hX dX8_shared_43 (by decide) rfl ?_
          refine V_iload_n (pc' := 46) hX dX8_shared_45 rfl rfl ?_
          refine V_imulN (pc' := 47) hX dX8_shared_46 rfl ?_
          refine V_iload (pc' := 49) hX dX8_shared_47 rfl rfl ?_
          refine V_iaddN (pc' := 50) hX dX8_shared_49 rfl ?_
          refine V_ialdN (pc' := 51) (v := nI ((M r).getD j 0)) hX dX8_shared_50 hM.2.2.2.1 (by omega) (by omega) (by rw [s3 j (by omega)]) rfl ?_
          refine V_callV (nA := 1) (pc' := 54) (k' := 0) (n' := 0) hX dX8_shared_51 (c_Md_weightOf ((M r).getD j 0) hvM hT hmo.1 hM) hM.1 rfl wM_X8_114 wI_X8_weightOf wL_X8_weightOf wN_X8 wC_X8_weightOf rfl hy_X8_weightOf rfl (Nat.le_of_ble_eq_true rfl) (by decide) (by omega) rfl rfl (by omega) rfl (by omega) rfl ?_
          rintro _ z h ⟨rfl, rfl, rfl⟩
          refine V.stk (st' := [_, _]) rfl ?_
          refine V_iaddN (pc' := 55) hX dX8_shared_54 rfl ?_
          refine V_istore_n (pc' := 56) (lv' := [_, _, _, _, _]) hX dX8_shared_55 (Nat.le_of_ble_eq_true rfl) rfl rfl ?_
          refine V_iincN (pc' := 59) (j := 1) (lv' := [_, _, _, _, _]) hX dX8_shared_56 rfl rfl rfl rfl ?_
          refine V_goto (pc' := 5) hX dX8_shared_59 rfl ?_
          have hds := drop_sh (w := W) (Q := M r) (N := M s) (j := j) (by omega)
          first
            | (rw [if_pos hin] at hds; exact ih (j + 1) _ (by omega) (by omega) (by omega))
            | (rw [if_neg hin] at hds; exact ih (j + 1) _ (by omega) (by omega) (by omega))
  exact lp ((M r).length + 1) 0 0 (by omega) (by rw [List.drop_zero]; omega) (by omega)
set_option maxRecDepth 100000 in
set_option maxHeartbeats 4000000 in
theorem c_Md_piece {G : Gd} {z : Nat} {h : AH} {y : Nat} {th : Int32} {mk : Nat} {ts : Nat} {fs : Nat} {kd : Nat} {p : Nat} {q : Nat} {len : Nat} {ks : Nat} {fm : Nat} {cm : Nat} {be : Nat} {dz : Nat → Bool} {mn : Nat → Nat} {st : Nat → Nat} {tn : Nat → Nat} {tv : Nat → Nat} {fn : Nat → Nat} {fv : Nat → Nat} {on : Nat → Nat} {tw : Nat → Nat} {bf : Nat → Nat} {g1 : Nat → Nat} {g2 : Nat → Nat} {g3 : Nat → Nat} {sv : Nat → Nat} {fa : Nat → Int32} {fy : Nat → Nat} {bs : Nat → Nat} {cf : Nat → Nat} (i qq : Nat) (hq : qq = 1 ∨ qq = 2) (hi : i + qq ≤ 80) (hM : mdC G h y th mk ts fs kd p q len ks fm cm be dz mn st tn tv fn fv on tw bf g1 g2 g3 sv fa fy bs cf)  : Ct G yX8_piece cX8_piece 3 (some .int) 0 0 0 [.ref y, .int (nI i), .int (nI qq)] z h (fun r' z' h' => r' = some (.int (nI (pcN bf qq i))) ∧ z' = z ∧ h' = h) := by
  refine Ct.of (lv := [_, _, _]) (by decide) (Nat.le_of_ble_eq_true rfl) rfl ?_
  rintro X rfl hX hR hnm
  refine V_iload_n (pc' := 1) hX dX8_piece_0 rfl rfl ?_
  refine V_iconst (pc' := 2) (v := nI 1) hX dX8_piece_1 (by decide) rfl ?_
  refine V_icmp_neN (pt := 14) (pc' := 5) hX dX8_piece_2 (by omega) (by omega) rfl rfl (fun c2 => ?_) (fun c2 => ?_)
  · refine V_sipush (pc' := 17) (v := nI 256) hX dX8_piece_14 (by decide) rfl ?_
    refine V_aload_n (pc' := 18) hX dX8_piece_17 rfl rfl ?_
    refine V_get (pc' := 21) hX dX8_piece_18 hM.1 rfl inX8 16 (by decide) wF_X8_48 rfl rfl ?_
    refine V_iload_n (pc' := 22) hX dX8_piece_21 rfl rfl ?_
    refine V_ialdN (pc' := 23) hX dX8_piece_22 hM.2.2.2.2.2.2.2.2.2.2.1 (by omega) (by omega) rfl rfl ?_
    refine V_imulN (pc' := 24) hX dX8_piece_23 rfl ?_
    refine V_aload_n (pc' := 25) hX dX8_piece_24 rfl rfl ?_
    refine V_get (pc' := 28) hX dX8_piece_25 hM.1 rfl inX8 16 (by decide) wF_X8_48 rfl rfl ?_
    refine V_iload_n (pc' := 29) hX dX8_piece_28 rfl rfl ?_
    refine V_iconst (pc' := 30) (v := nI 1) hX dX8_piece_29 (by decide) rfl ?_
    refine V_iaddN (pc' := 31) hX dX8_piece_30 rfl ?_
    refine V_ialdN (pc' := 32) hX dX8_piece_31 hM.2.2.2.2.2.2.2.2.2.2.1 (by omega) (by omega) rfl rfl ?_
    refine V_iaddN (pc' := 33) hX dX8_piece_32 rfl ?_
    refine V_iret hX hR dX8_piece_33 ?_
    unfold pcN; rw [if_neg c2, Nat.mul_comm (bf i) 256]; exact ⟨rfl, rfl, rfl⟩
  · refine V_aload_n (pc' := 6) hX dX8_piece_5 rfl rfl ?_
    refine V_get (pc' := 9) hX dX8_piece_6 hM.1 rfl inX8 16 (by decide) wF_X8_48 rfl rfl ?_
    refine V_iload_n (pc' := 10) hX dX8_piece_9 rfl rfl ?_
    refine V_ialdN (pc' := 11) hX dX8_piece_10 hM.2.2.2.2.2.2.2.2.2.2.1 (by omega) (by omega) rfl rfl ?_
    refine V_goto (pc' := 33) hX dX8_piece_11 rfl ?_
    refine V_iret hX hR dX8_piece_33 ?_
    unfold pcN; rw [if_pos c2]; exact ⟨rfl, rfl, rfl⟩
set_option maxRecDepth 100000 in
set_option maxHeartbeats 4000000 in
theorem c_Md_four {G : Gd} {z : Nat} {h : AH} {y : Nat} {th : Int32} {mk : Nat} {ts : Nat} {fs : Nat} {kd : Nat} {p : Nat} {q : Nat} {len : Nat} {ks : Nat} {fm : Nat} {cm : Nat} {be : Nat} {dz : Nat → Bool} {mn : Nat → Nat} {st : Nat → Nat} {tn : Nat → Nat} {tv : Nat → Nat} {fn : Nat → Nat} {fv : Nat → Nat} {on : Nat → Nat} {tw : Nat → Nat} {bf : Nat → Nat} {g1 : Nat → Nat} {g2 : Nat → Nat} {g3 : Nat → Nat} {sv : Nat → Nat} {fa : Nat → Int32} {fy : Nat → Nat} {bs : Nat → Nat} {cf : Nat → Nat} (v : Int32) (hl : len + 4 ≤ 80) (hM : mdC G h y th mk ts fs kd p q len ks fm cm be dz mn st tn tv fn fv on tw bf g1 g2 g3 sv fa fy bs cf)  : Ct G yX8_four cX8_four 3 none 0 0 0 [.ref y, .int v] z h (fun r' z' h' => r' = none ∧ z' = z ∧ fr y (y + 19) h h' ∧ ∃ bf', (∀ j, j < len → bf' j = bf j) ∧ (∀ i, i < 4 → bf' (len + i) = byN v (24 - 8 * i)) ∧ mdC G h' y th mk ts fs kd p q (len + 4) ks fm cm be dz mn st tn tv fn fv on tw (bf') g1 g2 g3 sv fa fy bs cf) := by
  refine Ct.of (lv := [_, _, _]) (by decide) (Nat.le_of_ble_eq_true rfl) rfl ?_
  rintro X rfl hX hR hnm
  refine V_iconst (pc' := 1) (v := nI 3) hX dX8_four_0 (by decide) rfl ?_
  refine V_istore_n (pc' := 2) (lv' := [_, _, _]) hX dX8_four_1 (Nat.le_of_ble_eq_true rfl) rfl rfl ?_
  have lp : ∀ (μ i : Nat) (h2 : AH) (bf2 : Nat → Nat), i ≤ 4 → (∀ j, j < len → bf2 j = bf j) → (∀ j, j < i → bf2 (len + j) = byN v (24 - 8 * j)) → fr y (y + 19) h h2 → mdC X.G h2 y th mk ts fs kd p q (len + i) ks fm cm be dz mn st tn tv fn fv on tw (bf2) g1 g2 g3 sv fa fy bs cf → 4 - i < μ → V X 0 0 z h2 2 [some (.ref y), some (.int v), some (.int (kI i))] [] := by
    intro μ
    induction μ with
    | zero => intros; omega
    | succ μ ih =>
      intro i h2 bf2 b1 b2 b3 f0 hM b5
      refine V_iload_n (pc' := 3) hX dX8_four_2 rfl rfl ?_
      refine V_if_lt (pt := 41) (pc' := 6) hX dX8_four_3 rfl rfl (fun c3 => ?_) (fun c3 => ?_)
      · have h4 : 4 ≤ i := (kI_neg i (by omega)).mp c3
        refine V_vret hX hR dX8_four_41 ?_
        have ei : i = 4 := by omega
        subst ei
        exact ⟨rfl, rfl, f0, bf2, b2, b3, hM⟩
      · have h4 : ¬ 4 ≤ i := fun e => c3 ((kI_neg i (by omega)).mpr e)
        refine V_aload_n (pc' := 7) hX dX8_four_6 rfl rfl ?_
        refine V_get (pc' := 10) hX dX8_four_7 hM.1 rfl inX8 16 (by decide) wF_X8_48 rfl rfl ?_
        refine V_aload_n (pc' := 11) hX dX8_four_10 rfl rfl ?_
        refine V_get (pc' := 14) hX dX8_four_11 hM.1 rfl inX8 17 (by decide) wF_X8_117 rfl rfl ?_
        refine V_iload_n (pc' := 15) hX dX8_four_14 rfl rfl ?_
        refine V_bipush (pc' := 17) (v := nI 8) hX dX8_four_15 (by decide) rfl ?_
        refine V_iload_n (pc' := 18) hX dX8_four_17 rfl rfl ?_
        refine V_imul (pc' := 19) hX dX8_four_18 rfl ?_
        rw [kI_sh i (by omega)]
        refine V_ishr (pc' := 20) hX dX8_four_19 rfl ?_
        refine V_sipush (pc' := 23) (v := nI 255) hX dX8_four_20 (by decide) rfl ?_
        refine V_iand (pc' := 24) hX dX8_four_23 rfl ?_
        rw [by_shr v i (by omega)]
        refine V_iastN (pc' := 25) hX dX8_four_24 hM.2.2.2.2.2.2.2.2.2.2.1 (by omega) (by omega) rfl ?_
        refine V.gen (fun h3 eh3 => ?_)
        have fh3 := fr.of_up eh3
        have hM := hM.u10 (up_at eh3) fh3
        have f0 := f0.tr (fh3.mono (lo' := y) (hi' := y + 19) (by omega) (by omega))
        refine V_aload_n (pc' := 26) hX dX8_four_25 rfl rfl ?_
        refine V_dup (pc' := 27) hX dX8_four_26 rfl rfl ?_
        refine V_get (pc' := 30) hX dX8_four_27 hM.1 rfl inX8 17 (by decide) wF_X8_117 rfl rfl ?_
        refine V_iconst (pc' := 31) (v := nI 1) hX dX8_four_30 (by decide) rfl ?_
        refine V_iaddN (pc' := 32) hX dX8_four_31 rfl ?_
        refine V_put (pc' := 35) (fs' := [_, _, _, _, _, _, _, _, _, _, _, _, _, _, _, _, _, _, _, _, _, _, _, _, _, _, _, _, _, _]) (ty0 := tyX8) hX dX8_four_32 hM.1 rfl inX8 tyX8_ok nmX8 17 (by decide) wF_X8_117 rfl (tyX8_ok 17 (by decide)) rfl rfl (Nat.le_of_ble_eq_true rfl) rfl rfl ?_
        refine V.gen (fun h4 eh4 => ?_)
        have fh4 := fr.of_up eh4
        have hM := hM.u0 (up_at eh4) fh4
        have f0 := f0.tr (fh4.mono (lo' := y) (hi' := y + 19) (by omega) (by omega))
        refine V_iinc (pc' := 38) (lv' := [_, _, _]) (v := kI (i + 1)) hX dX8_four_35 rfl (kI_step i (by omega)) rfl rfl ?_
        refine V_goto (pc' := 2) hX dX8_four_38 rfl ?_
        exact ih (i + 1) _ _ (by omega) (fun j hj => by rw [vu_ne _ _ (by omega)]; exact b2 j hj) (fun j hj => by
          by_cases e : j = i
          · rw [e, vu_at]
          · rw [vu_ne _ _ (by omega)]; exact b3 j (by omega)) f0 hM (by omega)
  exact lp 5 0 h bf (by omega) (fun j _ => rfl) (fun j hj => by omega) fr.rf hM (by omega)
set_option maxRecDepth 100000 in
set_option maxHeartbeats 4000000 in
theorem c_Md_feed {G : Gd} {z : Nat} {h : AH} {y : Nat} {th : Int32} {mk : Nat} {ts : Nat} {fs : Nat} {kd : Nat} {p : Nat} {q : Nat} {len : Nat} {ks : Nat} {fm : Nat} {cm : Nat} {be : Nat} {dz : Nat → Bool} {mn : Nat → Nat} {st : Nat → Nat} {tn : Nat → Nat} {tv : Nat → Nat} {fn : Nat → Nat} {fv : Nat → Nat} {on : Nat → Nat} {tw : Nat → Nat} {bf : Nat → Nat} {g1 : Nat → Nat} {g2 : Nat → Nat} {g3 : Nat → Nat} {sv : Nat → Nat} {fa : Nat → Int32} {fy : Nat → Nat} {bs : Nat → Nat} {cf : Nat → Nat} (a b c d e : Int32) (hl80 : len ≤ 80) (hM : mdC G h y th mk ts fs kd p q len ks fm cm be dz mn st tn tv fn fv on tw bf g1 g2 g3 sv fa fy bs cf)  : Ct G yX8_feed cX8_feed 6 (some .int) 1 0 0 [.ref y, .int a, .int b, .int c, .int d, .int e] z h (fun r' z' h' => z' = z ∧ fr y (y + 19) h h' ∧ ((80 < len + 20 ∧ r' = some (.int (-1)) ∧ mdC G h' y (nI 0) mk ts fs kd p q len ks fm cm be dz mn st tn tv fn fv on tw bf g1 g2 g3 sv fa fy bs cf) ∨ (len + 20 ≤ 80 ∧ r' = some (.int (nI (len + 20))) ∧ ∃ bf', (∀ j, j < len → bf' j = bf j) ∧ (∀ i, i < 4 → bf' (len + i) = byN a (24 - 8 * i) ∧ bf' (len + 4 + i) = byN b (24 - 8 * i) ∧ bf' (len + 8 + i) = byN c (24 - 8 * i) ∧ bf' (len + 12 + i) = byN d (24 - 8 * i) ∧ bf' (len + 16 + i) = byN e (24 - 8 * i)) ∧ mdC G h' y (nI 0) mk ts fs kd p q (len + 20) ks fm cm be dz mn st tn tv fn fv on tw (bf') g1 g2 g3 sv fa fy bs cf))) := by
  refine Ct.of (lv := [_, _, _, _, _, _]) (by decide) (Nat.le_of_ble_eq_true rfl) rfl ?_
  rintro X rfl hX hR hnm
  refine V_aload_n (pc' := 1) hX dX8_feed_0 rfl rfl ?_
  refine V_iconst (pc' := 2) (v := nI 0) hX dX8_feed_1 (by decide) rfl ?_
  refine V_put (pc' := 5) (fs' := [_, _, _, _, _, _, _, _, _, _, _, _, _, _, _, _, _, _, _, _, _, _, _, _, _, _, _, _, _, _]) (ty0 := tyX8) hX dX8_feed_2 hM.1 rfl inX8 tyX8_ok nmX8 0 (by decide) wF_X8_75 rfl (tyX8_ok 0 (by decide)) rfl rfl (Nat.le_of_ble_eq_true rfl) rfl rfl ?_
  refine V.gen (fun h0 eh0 => ?_)
  have f0 := fr.of_up eh0
  have hM := hM.u0 (up_at eh0) f0
  have f0 := f0.mono (lo' := y) (hi' := y + 19) (by omega) (by omega)
  refine V_aload_n (pc' := 6) hX dX8_feed_5 rfl rfl ?_
  refine V_get (pc' := 9) hX dX8_feed_6 hM.1 rfl inX8 17 (by decide) wF_X8_117 rfl rfl ?_
  refine V_bipush (pc' := 11) (v := nI 20) hX dX8_feed_9 (by decide) rfl ?_
  refine V_iaddN (pc' := 12) hX dX8_feed_11 rfl ?_
  refine V_bipush (pc' := 14) (v := nI 80) hX dX8_feed_12 (by decide) rfl ?_
  refine V_icmp_leN (pt := 19) (pc' := 17) hX dX8_feed_14 (by omega) (by omega) rfl rfl (fun c14 => ?_) (fun c14 => ?_)
  · refine V_aload_n (pc' := 20) hX dX8_feed_19 rfl rfl ?_
    refine V_iload_n (pc' := 21) hX dX8_feed_20 rfl rfl ?_
    refine V_callV (nA := 1) (pc' := 24) (k' := 0) (n' := 0) hX dX8_feed_21 (c_Md_four a (by omega) hM) hM.1 rfl wM_X8_120 wI_X8_four wL_X8_four wN_X8 wC_X8_four rfl hy_X8_four rfl (Nat.le_of_ble_eq_true rfl) (by decide) (by omega) rfl rfl (by omega) rfl (by omega) rfl ?_
    rintro _ z h1 ⟨rfl, rfl, g0a, bf1, g0b, g0c, hM⟩
    have f0 := f0.tr g0a
    refine V.stk (st' := []) rfl ?_
    refine V_aload_n (pc' := 25) hX dX8_feed_24 rfl rfl ?_
    refine V_iload_n (pc' := 26) hX dX8_feed_25 rfl rfl ?_
    refine V_callV (nA := 1) (pc' := 29) (k' := 0) (n' := 0) hX dX8_feed_26 (c_Md_four b (by omega) hM) hM.1 rfl wM_X8_120 wI_X8_four wL_X8_four wN_X8 wC_X8_four rfl hy_X8_four rfl (Nat.le_of_ble_eq_true rfl) (by decide) (by omega) rfl rfl (by omega) rfl (by omega) rfl ?_
    rintro _ z h2 ⟨rfl, rfl, g1a, bf2, g1b, g1c, hM⟩
    have f0 := f0.tr g1a
    refine V.stk (st' := []) rfl ?_
    refine V_aload_n (pc' := 30) hX dX8_feed_29 rfl rfl ?_
    refine V_iload_n (pc' := 31) hX dX8_feed_30 rfl rfl ?_
    refine V_callV (nA := 1) (pc' := 34) (k' := 0) (n' := 0) hX dX8_feed_31 (c_Md_four c (by omega) hM) hM.1 rfl wM_X8_120 wI_X8_four wL_X8_four wN_X8 wC_X8_four rfl hy_X8_four rfl (Nat.le_of_ble_eq_true rfl) (by decide) (by omega) rfl rfl (by omega) rfl (by omega) rfl ?_
    rintro _ z h3 ⟨rfl, rfl, g2a, bf3, g2b, g2c, hM⟩
    have f0 := f0.tr g2a
    refine V.stk (st' := []) rfl ?_
    refine V_aload_n (pc' := 35) hX dX8_feed_34 rfl rfl ?_
    refine V_iload (pc' := 37) hX dX8_feed_35 rfl rfl ?_
    refine V_callV (nA := 1) (pc' := 40) (k' := 0) (n' := 0) hX dX8_feed_37 (c_Md_four d (by omega) hM) hM.1 rfl wM_X8_120 wI_X8_four wL_X8_four wN_X8 wC_X8_four rfl hy_X8_four rfl (Nat.le_of_ble_eq_true rfl) (by decide) (by omega) rfl rfl (by omega) rfl (by omega) rfl ?_
    rintro _ z h4 ⟨rfl, rfl, g3a, bf4, g3b, g3c, hM⟩
    have f0 := f0.tr g3a
    refine V.stk (st' := []) rfl ?_
    refine V_aload_n (pc' := 41) hX dX8_feed_40 rfl rfl ?_
    refine V_iload (pc' := 43) hX dX8_feed_41 rfl rfl ?_
    refine V_callV (nA := 1) (pc' := 46) (k' := 0) (n' := 0) hX dX8_feed_43 (c_Md_four e (by omega) hM) hM.1 rfl wM_X8_120 wI_X8_four wL_X8_four wN_X8 wC_X8_four rfl hy_X8_four rfl (Nat.le_of_ble_eq_true rfl) (by decide) (by omega) rfl rfl (by omega) rfl (by omega) rfl ?_
    rintro _ z h5 ⟨rfl, rfl, g4a, bf5, g4b, g4c, hM⟩
    have f0 := f0.tr g4a
    refine V.stk (st' := []) rfl ?_
    refine V_aload_n (pc' := 47) hX dX8_feed_46 rfl rfl ?_
    refine V_get (pc' := 50) hX dX8_feed_47 hM.1 rfl inX8 17 (by decide) wF_X8_117 rfl rfl ?_
    refine V_iret hX hR dX8_feed_50 ?_
    refine ⟨rfl, f0, Or.inr ⟨by omega, rfl, bf5, fun j hj => ?_, fun i hi => ⟨?_, ?_, ?_, ?_, ?_⟩, hM⟩⟩
    · rw [g4b j (by omega), g3b j (by omega), g2b j (by omega), g1b j (by omega), g0b j hj]
    · rw [g4b _ (by omega), g3b _ (by omega), g2b _ (by omega), g1b _ (by omega), g0c i hi]
    · rw [g4b _ (by omega), g3b _ (by omega), g2b _ (by omega), ← g1c i hi]
    · rw [g4b _ (by omega), g3b _ (by omega), ← g2c i hi]
    · rw [g4b _ (by omega), ← g3c i hi]
    · rw [← g4c i hi]
  · refine V_iconst (pc' := 18) (v := (-1)) hX dX8_feed_17 (by decide) rfl ?_
    refine V_iret hX hR dX8_feed_18 ?_
    exact ⟨rfl, f0, Or.inl ⟨by omega, rfl, hM⟩⟩
set_option maxRecDepth 100000 in
set_option maxHeartbeats 4000000 in
theorem c_Md_end {G : Gd} {z : Nat} {h : AH} {y : Nat} {th : Int32} {mk : Nat} {ts : Nat} {fs : Nat} {kd : Nat} {p : Nat} {q : Nat} {len : Nat} {ks : Nat} {fm : Nat} {cm : Nat} {be : Nat} {dz : Nat → Bool} {mn : Nat → Nat} {st : Nat → Nat} {tn : Nat → Nat} {tv : Nat → Nat} {fn : Nat → Nat} {fv : Nat → Nat} {on : Nat → Nat} {tw : Nat → Nat} {bf : Nat → Nat} {g1 : Nat → Nat} {g2 : Nat → Nat} {g3 : Nat → Nat} {sv : Nat → Nat} {fa : Nat → Int32} {fy : Nat → Nat} {bs : Nat → Nat} {cf : Nat → Nat} (n : Int32) (hl80 : len ≤ 80) (hM : mdC G h y th mk ts fs kd p q len ks fm cm be dz mn st tn tv fn fv on tw bf g1 g2 g3 sv fa fy bs cf)  : Ct G yX8_end cX8_end 2 (some .int) 1 0 0 [.ref y, .int n] z h (fun r' z' h' => z' = z ∧ fr y (y + 19) h h' ∧ ((∃ m, m ≤ len ∧ n = nI m ∧ r' = some (.int (nI m)) ∧ mdC G h' y (nI 0) mk ts fs kd p q (m) ks fm cm be dz mn st tn tv fn fv on tw bf g1 g2 g3 sv fa fy bs cf) ∨ (¬ (0 ≤ n.toInt ∧ n.toInt ≤ (len : Int)) ∧ r' = some (.int (-1)) ∧ mdC G h' y (nI 0) mk ts fs kd p q len ks fm cm be dz mn st tn tv fn fv on tw bf g1 g2 g3 sv fa fy bs cf))) := by
  refine Ct.of (lv := [_, _]) (by decide) (Nat.le_of_ble_eq_true rfl) rfl ?_
  rintro X rfl hX hR hnm
  refine V_aload_n (pc' := 1) hX dX8_end_0 rfl rfl ?_
  refine V_iconst (pc' := 2) (v := nI 0) hX dX8_end_1 (by decide) rfl ?_
  refine V_put (pc' := 5) (fs' := [_, _, _, _, _, _, _, _, _, _, _, _, _, _, _, _, _, _, _, _, _, _, _, _, _, _, _, _, _, _]) (ty0 := tyX8) hX dX8_end_2 hM.1 rfl inX8 tyX8_ok nmX8 0 (by decide) wF_X8_75 rfl (tyX8_ok 0 (by decide)) rfl rfl (Nat.le_of_ble_eq_true rfl) rfl rfl ?_
  refine V.gen (fun h0 eh0 => ?_)
  have f0 := fr.of_up eh0
  have hM := hM.u0 (up_at eh0) f0
  have f0 := f0.mono (lo' := y) (hi' := y + 19) (by omega) (by omega)
  refine V_iload_n (pc' := 6) hX dX8_end_5 rfl rfl ?_
  refine V_iconst (pc' := 7) (v := nI 0) hX dX8_end_6 (by decide) rfl ?_
  refine V_aload_n (pc' := 8) hX dX8_end_7 rfl rfl ?_
  refine V_get (pc' := 11) hX dX8_end_8 hM.1 rfl inX8 17 (by decide) wF_X8_117 rfl rfl ?_
  refine V_callS (nA := 3) (pc' := 14) (k' := 0) (n' := 0) hX dX8_end_11 (c_Md_in n (nI 0) (nI len)) wM_X8_81 wS_X8_in wN_X8 wC_X8_in rfl hy_X8_in rfl (Nat.le_of_ble_eq_true rfl) (by decide) (by omega) rfl rfl (by omega) rfl (by omega) rfl ?_
  rintro _ z h0 ⟨rfl, rfl, rfl⟩
  rw [show (nI 0).toInt = 0 by decide, nI_toInt (show len < 2 ^ 31 by omega)]
  refine V.stk (st' := [_]) rfl ?_
  refine V_if_neB (pt := 19) (pc' := 17) hX dX8_end_14 rfl rfl (fun c14 => ?_) (fun c14 => ?_)
  · have hc := of_decide_eq_true c14
    obtain ⟨m, hm31, rfl⟩ := nI_of (x := n) (by rw [i32_lt]; show ¬ _ < (0 : Int); omega)
    rw [nI_toInt hm31] at hc
    refine V_aload_n (pc' := 20) hX dX8_end_19 rfl rfl ?_
    refine V_iload_n (pc' := 21) hX dX8_end_20 rfl rfl ?_
    refine V_put (pc' := 24) (fs' := [_, _, _, _, _, _, _, _, _, _, _, _, _, _, _, _, _, _, _, _, _, _, _, _, _, _, _, _, _, _]) (ty0 := tyX8) hX dX8_end_21 hM.1 rfl inX8 tyX8_ok nmX8 17 (by decide) wF_X8_117 rfl (tyX8_ok 17 (by decide)) rfl rfl (Nat.le_of_ble_eq_true rfl) rfl rfl ?_
    refine V.gen (fun h1 eh1 => ?_)
    have fh1 := fr.of_up eh1
    have hM := hM.u0 (up_at eh1) fh1
    have f0 := f0.tr (fh1.mono (lo' := y) (hi' := y + 19) (by omega) (by omega))
    refine V_iload_n (pc' := 25) hX dX8_end_24 rfl rfl ?_
    refine V_iret hX hR dX8_end_25 ?_
    exact ⟨rfl, f0, Or.inl ⟨m, by omega, rfl, rfl, hM⟩⟩
  · refine V_iconst (pc' := 18) (v := (-1)) hX dX8_end_17 (by decide) rfl ?_
    refine V_iret hX hR dX8_end_18 ?_
    exact ⟨rfl, f0, Or.inr ⟨of_decide_eq_false c14, rfl, hM⟩⟩
set_option maxRecDepth 100000 in
set_option maxHeartbeats 4000000 in
theorem c_Md_measure {G : Gd} {z : Nat} {h : AH} {y : Nat} {th : Int32} {mk : Nat} {ts : Nat} {fs : Nat} {kd : Nat} {p : Nat} {q : Nat} {len : Nat} {ks : Nat} {fm : Nat} {cm : Nat} {be : Nat} {dz : Nat → Bool} {mn : Nat → Nat} {st : Nat → Nat} {tn : Nat → Nat} {tv : Nat → Nat} {fn : Nat → Nat} {fv : Nat → Nat} {on : Nat → Nat} {tw : Nat → Nat} {bf : Nat → Nat} {g1 : Nat → Nat} {g2 : Nat → Nat} {g3 : Nat → Nat} {sv : Nat → Nat} {fa : Nat → Int32} {fy : Nat → Nat} {bs : Nat → Nat} {cf : Nat → Nat} (a b c : Int32) (hM : mdC G h y th mk ts fs kd p q len ks fm cm be dz mn st tn tv fn fv on tw bf g1 g2 g3 sv fa fy bs cf)  : Ct G yX8_measure cX8_measure 5 (some .boolean) 1 0 0 [.ref y, .int a, .int b, .int c] z h (fun r' z' h' => z' = z ∧ fr y (y + 19) h h' ∧ ((¬ msIn a b c ∧ r' = some (.int (bI false)) ∧ mdC G h' y (nI 0) mk ts fs kd p q len ks fm cm be dz mn st tn tv fn fv on tw bf g1 g2 g3 sv fa fy bs cf) ∨ ∃ kd' p' q', msIn a b c ∧ a = nI kd' ∧ b = nI p' ∧ c = nI q' ∧ mOk kd' p' q' ∧ r' = some (.int (bI true)) ∧ mdC G h' y (nI 0) mk ts fs (kd') (p') (q') len ks fm cm be dz mn st tn tv fn fv on tw bf g1 g2 g3 sv fa fy bs cf)) := by
  refine Ct.of (lv := [_, _, _, _, _]) (by decide) (Nat.le_of_ble_eq_true rfl) rfl ?_
  rintro X rfl hX hR hnm
  have z0 : (0 : Int32).toInt = 0 := by decide
  have z1 : (nI 1).toInt = 1 := by decide
  refine V_aload_n (pc' := 1) hX dX8_measure_0 rfl rfl ?_
  refine V_iconst (pc' := 2) (v := nI 0) hX dX8_measure_1 (by decide) rfl ?_
  refine V_put (pc' := 5) (fs' := [_, _, _, _, _, _, _, _, _, _, _, _, _, _, _, _, _, _, _, _, _, _, _, _, _, _, _, _, _, _]) (ty0 := tyX8) hX dX8_measure_2 hM.1 rfl inX8 tyX8_ok nmX8 0 (by decide) wF_X8_75 rfl (tyX8_ok 0 (by decide)) rfl rfl (Nat.le_of_ble_eq_true rfl) rfl rfl ?_
  refine V.gen (fun h0 eh0 => ?_)
  have f0 := fr.of_up eh0
  have hM := hM.u0 (up_at eh0) f0
  have f0 := f0.mono (lo' := y) (hi' := y + 19) (by omega) (by omega)
  refine V_iload_n (pc' := 6) hX dX8_measure_5 rfl rfl ?_
  refine V_if_ne (pt := 33) (pc' := 9) hX dX8_measure_6 rfl rfl (fun c6 => ?_) (fun c6 => ?_)
  · have ha : a.toInt ≠ 0 := fun e => c6 (i32_eq.mpr (by rw [z0]; exact e))
    refine V_iload_n (pc' := 34) hX dX8_measure_33 rfl rfl ?_
    refine V_iconst (pc' := 35) (v := nI 1) hX dX8_measure_34 (by decide) rfl ?_
    refine V_iconst (pc' := 36) (v := nI 5) hX dX8_measure_35 (by decide) rfl ?_
    refine V_callS (nA := 3) (pc' := 39) (k' := 0) (n' := 0) hX dX8_measure_36 (c_Md_in a (nI 1) (nI 5)) wM_X8_81 wS_X8_in wN_X8 wC_X8_in rfl hy_X8_in rfl (Nat.le_of_ble_eq_true rfl) (by decide) (by omega) rfl rfl (by omega) rfl (by omega) rfl ?_
    rintro _ z h0 ⟨rfl, rfl, rfl⟩
    rw [show (nI 1).toInt = 1 by decide, show (nI 5).toInt = 5 by decide]
    refine V.stk (st' := [_]) rfl ?_
    refine V_if_eqB (pt := 73) (pc' := 42) hX dX8_measure_39 rfl rfl (fun c39 => ?_) (fun c39 => ?_)
    · have hb := of_decide_eq_false c39
      refine V_iconst (pc' := 74) (v := nI 0) hX dX8_measure_73 (by decide) rfl ?_
      refine V_istore (pc' := 76) (lv' := [_, _, _, _, _]) hX dX8_measure_74 (Nat.le_of_ble_eq_true rfl) rfl rfl ?_
      refine V_iload (pc' := 78) hX dX8_measure_76 rfl rfl ?_
      refine V_if_neN (pt := 83) (pc' := 81) hX dX8_measure_78 (by omega) rfl rfl (fun c78 => ?_) (fun c78 => ?_)
      · exact absurd c78 (by omega)
      · refine V_iconst (pc' := 82) (v := nI 0) hX dX8_measure_81 (by decide) rfl ?_
        refine V_zret hX hR dX8_measure_82 (by rfl) ?_
        exact ⟨rfl, f0, Or.inl ⟨by unfold msIn; omega, rfl, hM⟩⟩
    · have hb := of_decide_eq_true c39
      refine V_iload_n (pc' := 43) hX dX8_measure_42 rfl rfl ?_
      refine V_iconst (pc' := 44) (v := nI 1) hX dX8_measure_43 (by decide) rfl ?_
      refine V_sipush (pc' := 47) (v := nI 1000) hX dX8_measure_44 (by decide) rfl ?_
      refine V_callS (nA := 3) (pc' := 50) (k' := 0) (n' := 0) hX dX8_measure_47 (c_Md_in b (nI 1) (nI 1000)) wM_X8_81 wS_X8_in wN_X8 wC_X8_in rfl hy_X8_in rfl (Nat.le_of_ble_eq_true rfl) (by decide) (by omega) rfl rfl (by omega) rfl (by omega) rfl ?_
      rintro _ z h0 ⟨rfl, rfl, rfl⟩
      rw [show (nI 1).toInt = 1 by decide, show (nI 1000).toInt = 1000 by decide]
      refine V.stk (st' := [_]) rfl ?_
      refine V_if_eqB (pt := 73) (pc' := 53) hX dX8_measure_50 rfl rfl (fun c50 => ?_) (fun c50 => ?_)
      · have hc := of_decide_eq_false c50
        refine V_iconst (pc' := 74) (v := nI 0) hX dX8_measure_73 (by decide) rfl ?_
        refine V_istore (pc' := 76) (lv' := [_, _, _, _, _]) hX dX8_measure_74 (Nat.le_of_ble_eq_true rfl) rfl rfl ?_
        refine V_iload (pc' := 78) hX dX8_measure_76 rfl rfl ?_
        refine V_if_neN (pt := 83) (pc' := 81) hX dX8_measure_78 (by omega) rfl rfl (fun c78 => ?_) (fun c78 => ?_)
        · exact absurd c78 (by omega)
        · refine V_iconst (pc' := 82) (v := nI 0) hX dX8_measure_81 (by decide) rfl ?_
          refine V_zret hX hR dX8_measure_82 (by rfl) ?_
          exact ⟨rfl, f0, Or.inl ⟨by unfold msIn; omega, rfl, hM⟩⟩
      · have hc := of_decide_eq_true c50
        refine V_iload_n (pc' := 54) hX dX8_measure_53 rfl rfl ?_
        refine V_iconst (pc' := 55) (v := nI 1) hX dX8_measure_54 (by decide) rfl ?_
        refine V_sipush (pc' := 58) (v := nI 1000) hX dX8_measure_55 (by decide) rfl ?_
        refine V_callS (nA := 3) (pc' := 61) (k' := 0) (n' := 0) hX dX8_measure_58 (c_Md_in c (nI 1) (nI 1000)) wM_X8_81 wS_X8_in wN_X8 wC_X8_in rfl hy_X8_in rfl (Nat.le_of_ble_eq_true rfl) (by decide) (by omega) rfl rfl (by omega) rfl (by omega) rfl ?_
        rintro _ z h0 ⟨rfl, rfl, rfl⟩
        rw [show (nI 1).toInt = 1 by decide, show (nI 1000).toInt = 1000 by decide]
        refine V.stk (st' := [_]) rfl ?_
        refine V_if_eqB (pt := 73) (pc' := 64) hX dX8_measure_61 rfl rfl (fun c61 => ?_) (fun c61 => ?_)
        · have hd := of_decide_eq_false c61
          refine V_iconst (pc' := 74) (v := nI 0) hX dX8_measure_73 (by decide) rfl ?_
          refine V_istore (pc' := 76) (lv' := [_, _, _, _, _]) hX dX8_measure_74 (Nat.le_of_ble_eq_true rfl) rfl rfl ?_
          refine V_iload (pc' := 78) hX dX8_measure_76 rfl rfl ?_
          refine V_if_neN (pt := 83) (pc' := 81) hX dX8_measure_78 (by omega) rfl rfl (fun c78 => ?_) (fun c78 => ?_)
          · exact absurd c78 (by omega)
          · refine V_iconst (pc' := 82) (v := nI 0) hX dX8_measure_81 (by decide) rfl ?_
            refine V_zret hX hR dX8_measure_82 (by rfl) ?_
            exact ⟨rfl, f0, Or.inl ⟨by unfold msIn; omega, rfl, hM⟩⟩
        · have hd := of_decide_eq_true c61
          refine V_iload_n (pc' := 65) hX dX8_measure_64 rfl rfl ?_
          refine V_iload_n (pc' := 66) hX dX8_measure_65 rfl rfl ?_
          refine V_icmp_gt (pt := 73) (pc' := 69) hX dX8_measure_66 rfl rfl (fun c66 => ?_) (fun c66 => ?_)
          · have he := i32_lt.mp c66
            refine V_iconst (pc' := 74) (v := nI 0) hX dX8_measure_73 (by decide) rfl ?_
            refine V_istore (pc' := 76) (lv' := [_, _, _, _, _]) hX dX8_measure_74 (Nat.le_of_ble_eq_true rfl) rfl rfl ?_
            refine V_iload (pc' := 78) hX dX8_measure_76 rfl rfl ?_
            refine V_if_neN (pt := 83) (pc' := 81) hX dX8_measure_78 (by omega) rfl rfl (fun c78 => ?_) (fun c78 => ?_)
            · exact absurd c78 (by omega)
            · refine V_iconst (pc' := 82) (v := nI 0) hX dX8_measure_81 (by decide) rfl ?_
              refine V_zret hX hR dX8_measure_82 (by rfl) ?_
              exact ⟨rfl, f0, Or.inl ⟨by unfold msIn; omega, rfl, hM⟩⟩
          · have he : ¬ c.toInt < b.toInt := fun e => c66 (i32_lt.mpr e)
            refine V_iconst (pc' := 70) (v := nI 1) hX dX8_measure_69 (by decide) rfl ?_
            refine V_goto (pc' := 74) hX dX8_measure_70 rfl ?_
            refine V_istore (pc' := 76) (lv' := [_, _, _, _, _]) hX dX8_measure_74 (Nat.le_of_ble_eq_true rfl) rfl rfl ?_
            refine V_iload (pc' := 78) hX dX8_measure_76 rfl rfl ?_
            refine V_if_neN (pt := 83) (pc' := 81) hX dX8_measure_78 (by omega) rfl rfl (fun c78 => ?_) (fun c78 => ?_)
            · have hin : msIn a b c := by unfold msIn; omega
              obtain ⟨kd9, p9, q9, rfl, rfl, rfl, hO9⟩ := msIn_nat hin
              refine V_aload_n (pc' := 84) hX dX8_measure_83 rfl rfl ?_
              refine V_iload_n (pc' := 85) hX dX8_measure_84 rfl rfl ?_
              refine V_put (pc' := 88) (fs' := [_, _, _, _, _, _, _, _, _, _, _, _, _, _, _, _, _, _, _, _, _, _, _, _, _, _, _, _, _, _]) (ty0 := tyX8) hX dX8_measure_85 hM.1 rfl inX8 tyX8_ok nmX8 11 (by decide) wF_X8_32 rfl (tyX8_ok 11 (by decide)) rfl rfl (Nat.le_of_ble_eq_true rfl) rfl rfl ?_
              refine V.gen (fun h1 eh1 => ?_)
              have fh1 := fr.of_up eh1
              have hM := hM.u0 (up_at eh1) fh1
              have f0 := f0.tr (fh1.mono (lo' := y) (hi' := y + 19) (by omega) (by omega))
              refine V_aload_n (pc' := 89) hX dX8_measure_88 rfl rfl ?_
              refine V_iload_n (pc' := 90) hX dX8_measure_89 rfl rfl ?_
              refine V_put (pc' := 93) (fs' := [_, _, _, _, _, _, _, _, _, _, _, _, _, _, _, _, _, _, _, _, _, _, _, _, _, _, _, _, _, _]) (ty0 := tyX8) hX dX8_measure_90 hM.1 rfl inX8 tyX8_ok nmX8 12 (by decide) wF_X8_36 rfl (tyX8_ok 12 (by decide)) rfl rfl (Nat.le_of_ble_eq_true rfl) rfl rfl ?_
              refine V.gen (fun h2 eh2 => ?_)
              have fh2 := fr.of_up eh2
              have hM := hM.u0 (up_at eh2) fh2
              have f0 := f0.tr (fh2.mono (lo' := y) (hi' := y + 19) (by omega) (by omega))
              refine V_aload_n (pc' := 94) hX dX8_measure_93 rfl rfl ?_
              refine V_iload_n (pc' := 95) hX dX8_measure_94 rfl rfl ?_
              refine V_put (pc' := 98) (fs' := [_, _, _, _, _, _, _, _, _, _, _, _, _, _, _, _, _, _, _, _, _, _, _, _, _, _, _, _, _, _]) (ty0 := tyX8) hX dX8_measure_95 hM.1 rfl inX8 tyX8_ok nmX8 13 (by decide) wF_X8_39 rfl (tyX8_ok 13 (by decide)) rfl rfl (Nat.le_of_ble_eq_true rfl) rfl rfl ?_
              refine V.gen (fun h3 eh3 => ?_)
              have fh3 := fr.of_up eh3
              have hM := hM.u0 (up_at eh3) fh3
              have f0 := f0.tr (fh3.mono (lo' := y) (hi' := y + 19) (by omega) (by omega))
              refine V_iconst (pc' := 99) (v := nI 1) hX dX8_measure_98 (by decide) rfl ?_
              refine V_zret hX hR dX8_measure_99 (by rfl) ?_
              exact ⟨rfl, f0, Or.inr ⟨kd9, p9, q9, hin, rfl, rfl, rfl, hO9, rfl, hM⟩⟩
            · exact absurd c78 (by omega)
  · have ha : a.toInt = 0 := by rw [c6]; exact z0
    refine V_iload_n (pc' := 10) hX dX8_measure_9 rfl rfl ?_
    refine V_iconst (pc' := 11) (v := nI 1) hX dX8_measure_10 (by decide) rfl ?_
    refine V_sipush (pc' := 14) (v := nI 3000) hX dX8_measure_11 (by decide) rfl ?_
    refine V_callS (nA := 3) (pc' := 17) (k' := 0) (n' := 0) hX dX8_measure_14 (c_Md_in b (nI 1) (nI 3000)) wM_X8_81 wS_X8_in wN_X8 wC_X8_in rfl hy_X8_in rfl (Nat.le_of_ble_eq_true rfl) (by decide) (by omega) rfl rfl (by omega) rfl (by omega) rfl ?_
    rintro _ z h0 ⟨rfl, rfl, rfl⟩
    rw [show (nI 1).toInt = 1 by decide, show (nI 3000).toInt = 3000 by decide]
    refine V.stk (st' := [_]) rfl ?_
    refine V_if_eqB (pt := 29) (pc' := 20) hX dX8_measure_17 rfl rfl (fun c17 => ?_) (fun c17 => ?_)
    · have hb := of_decide_eq_false c17
      refine V_iconst (pc' := 30) (v := nI 0) hX dX8_measure_29 (by decide) rfl ?_
      refine V_goto (pc' := 74) hX dX8_measure_30 rfl ?_
      refine V_istore (pc' := 76) (lv' := [_, _, _, _, _]) hX dX8_measure_74 (Nat.le_of_ble_eq_true rfl) rfl rfl ?_
      refine V_iload (pc' := 78) hX dX8_measure_76 rfl rfl ?_
      refine V_if_neN (pt := 83) (pc' := 81) hX dX8_measure_78 (by omega) rfl rfl (fun c78 => ?_) (fun c78 => ?_)
      · exact absurd c78 (by omega)
      · refine V_iconst (pc' := 82) (v := nI 0) hX dX8_measure_81 (by decide) rfl ?_
        refine V_zret hX hR dX8_measure_82 (by rfl) ?_
        exact ⟨rfl, f0, Or.inl ⟨by unfold msIn; omega, rfl, hM⟩⟩
    · have hb := of_decide_eq_true c17
      refine V_iload_n (pc' := 21) hX dX8_measure_20 rfl rfl ?_
      refine V_iconst (pc' := 22) (v := nI 1) hX dX8_measure_21 (by decide) rfl ?_
      refine V_icmp_ne (pt := 29) (pc' := 25) hX dX8_measure_22 rfl rfl (fun c22 => ?_) (fun c22 => ?_)
      · have hc : c.toInt ≠ 1 := fun e => c22 (i32_eq.mpr (by rw [z1]; exact e))
        refine V_iconst (pc' := 30) (v := nI 0) hX dX8_measure_29 (by decide) rfl ?_
        refine V_goto (pc' := 74) hX dX8_measure_30 rfl ?_
        refine V_istore (pc' := 76) (lv' := [_, _, _, _, _]) hX dX8_measure_74 (Nat.le_of_ble_eq_true rfl) rfl rfl ?_
        refine V_iload (pc' := 78) hX dX8_measure_76 rfl rfl ?_
        refine V_if_neN (pt := 83) (pc' := 81) hX dX8_measure_78 (by omega) rfl rfl (fun c78 => ?_) (fun c78 => ?_)
        · exact absurd c78 (by omega)
        · refine V_iconst (pc' := 82) (v := nI 0) hX dX8_measure_81 (by decide) rfl ?_
          refine V_zret hX hR dX8_measure_82 (by rfl) ?_
          exact ⟨rfl, f0, Or.inl ⟨by unfold msIn; omega, rfl, hM⟩⟩
      · have hc : c.toInt = 1 := by rw [c22]; exact z1
        refine V_iconst (pc' := 26) (v := nI 1) hX dX8_measure_25 (by decide) rfl ?_
        refine V_goto (pc' := 74) hX dX8_measure_26 rfl ?_
        refine V_istore (pc' := 76) (lv' := [_, _, _, _, _]) hX dX8_measure_74 (Nat.le_of_ble_eq_true rfl) rfl rfl ?_
        refine V_iload (pc' := 78) hX dX8_measure_76 rfl rfl ?_
        refine V_if_neN (pt := 83) (pc' := 81) hX dX8_measure_78 (by omega) rfl rfl (fun c78 => ?_) (fun c78 => ?_)
        · have hin : msIn a b c := by unfold msIn; omega
          obtain ⟨kd9, p9, q9, rfl, rfl, rfl, hO9⟩ := msIn_nat hin
          refine V_aload_n (pc' := 84) hX dX8_measure_83 rfl rfl ?_
          refine V_iload_n (pc' := 85) hX dX8_measure_84 rfl rfl ?_
          refine V_put (pc' := 88) (fs' := [_, _, _, _, _, _, _, _, _, _, _, _, _, _, _, _, _, _, _, _, _, _, _, _, _, _, _, _, _, _]) (ty0 := tyX8) hX dX8_measure_85 hM.1 rfl inX8 tyX8_ok nmX8 11 (by decide) wF_X8_32 rfl (tyX8_ok 11 (by decide)) rfl rfl (Nat.le_of_ble_eq_true rfl) rfl rfl ?_
          refine V.gen (fun h1 eh1 => ?_)
          have fh1 := fr.of_up eh1
          have hM := hM.u0 (up_at eh1) fh1
          have f0 := f0.tr (fh1.mono (lo' := y) (hi' := y + 19) (by omega) (by omega))
          refine V_aload_n (pc' := 89) hX dX8_measure_88 rfl rfl ?_
          refine V_iload_n (pc' := 90) hX dX8_measure_89 rfl rfl ?_
          refine V_put (pc' := 93) (fs' := [_, _, _, _, _, _, _, _, _, _, _, _, _, _, _, _, _, _, _, _, _, _, _, _, _, _, _, _, _, _]) (ty0 := tyX8) hX dX8_measure_90 hM.1 rfl inX8 tyX8_ok nmX8 12 (by decide) wF_X8_36 rfl (tyX8_ok 12 (by decide)) rfl rfl (Nat.le_of_ble_eq_true rfl) rfl rfl ?_
          refine V.gen (fun h2 eh2 => ?_)
          have fh2 := fr.of_up eh2
          have hM := hM.u0 (up_at eh2) fh2
          have f0 := f0.tr (fh2.mono (lo' := y) (hi' := y + 19) (by omega) (by omega))
          refine V_aload_n (pc' := 94) hX dX8_measure_93 rfl rfl ?_
          refine V_iload_n (pc' := 95) hX dX8_measure_94 rfl rfl ?_
          refine V_put (pc' := 98) (fs' := [_, _, _, _, _, _, _, _, _, _, _, _, _, _, _, _, _, _, _, _, _, _, _, _, _, _, _, _, _, _]) (ty0 := tyX8) hX dX8_measure_95 hM.1 rfl inX8 tyX8_ok nmX8 13 (by decide) wF_X8_39 rfl (tyX8_ok 13 (by decide)) rfl rfl (Nat.le_of_ble_eq_true rfl) rfl rfl ?_
          refine V.gen (fun h3 eh3 => ?_)
          have fh3 := fr.of_up eh3
          have hM := hM.u0 (up_at eh3) fh3
          have f0 := f0.tr (fh3.mono (lo' := y) (hi' := y + 19) (by omega) (by omega))
          refine V_iconst (pc' := 99) (v := nI 1) hX dX8_measure_98 (by decide) rfl ?_
          refine V_zret hX hR dX8_measure_99 (by rfl) ?_
          exact ⟨rfl, f0, Or.inr ⟨kd9, p9, q9, hin, rfl, rfl, rfl, hO9, rfl, hM⟩⟩
        · exact absurd c78 (by omega)
