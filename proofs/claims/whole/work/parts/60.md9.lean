/-- the records that were reached -/
def fmL (fa : Nat → Int32) (n : Nat) : List Nat := (List.range n).filter (fun t => decide (fa t ≠ -1))
theorem fmL_yes {fa : Nat → Int32} {s : Nat} (h : ¬ fa s = -1) : fmL fa (s + 1) = fmL fa s ++ [s] := by
  unfold fmL
  rw [List.range_succ, List.filter_append, List.filter_cons_of_pos (by simpa using h)]; rfl
theorem fmL_no {fa : Nat → Int32} {s : Nat} (h : fa s = -1) : fmL fa (s + 1) = fmL fa s := by
  unfold fmL
  rw [List.range_succ, List.filter_append, List.filter_cons_of_neg (by simpa using h), List.filter_nil, List.append_nil]
theorem fmL_len {fa : Nat → Int32} : ∀ n, (fmL fa n).length = sm (fun s => if fa s = -1 then 0 else 1) n
  | 0 => rfl
  | n + 1 => by
    rw [sm_s, ← fmL_len n]
    by_cases h : fa n = -1
    · rw [fmL_no h, if_pos h]; rfl
    · rw [fmL_yes h, if_neg h, List.length_append]; rfl
theorem fmL_mono {fa : Nat → Int32} {n m : Nat} (h : n ≤ m) : (fmL fa n).length ≤ (fmL fa m).length := by
  rw [fmL_len, fmL_len]; exact sm_le h
theorem fmL_mem {fa : Nat → Int32} {n t : Nat} : t ∈ fmL fa n ↔ t < n ∧ fa t ≠ -1 := by
  unfold fmL
  rw [List.mem_filter, List.mem_range, decide_eq_true_iff]
theorem fmL_nd (fa : Nat → Int32) (n : Nat) : (fmL fa n).Nodup := List.Pairwise.filter _ List.nodup_range
theorem fmL_ne {fa : Nat → Int32} {n a b : Nat} (ha : a < (fmL fa n).length) (hb : b < (fmL fa n).length) (h : a ≠ b) : (fmL fa n).getD a 0 ≠ (fmL fa n).getD b 0 := by
  rcases Nat.lt_or_ge a b with q | q
  · exact nd_getD (fmL_nd fa n) q hb
  · exact fun e => nd_getD (fmL_nd fa n) (show b < a by omega) ha e.symm
theorem fmL_av {kd p q mk k t : Nat} {W : Nat → Nat} {L : Nat → List Nat} {av : Nat → Bool} {fa : Nat → Int32} (hk : av k = true) (hd : dOk (pE kd p q W L av) k fa) (hmk : mk ≤ 60) (ht : t ∈ fmL fa mk) : av t = true := by
  obtain ⟨h1, h2⟩ := fmL_mem.mp ht
  rcases hd t (by omega) with ⟨e, -, -, q3, -⟩ | ⟨q1, -⟩
  · exact bal_av hk (fun r s hx => (pE_av hx).2.1) q3
  · exact absurd q1 h2
theorem bk_yes {n a : Nat} (h : n.testBit a = true) : (List.range (a + 1)).filter (fun t => n.testBit t) = (List.range a).filter (fun t => n.testBit t) ++ [a] := by
  rw [List.range_succ, List.filter_append]
  congr 1
  simp [h]
theorem bk_no {n a : Nat} (h : n.testBit a = false) : (List.range (a + 1)).filter (fun t => n.testBit t) = (List.range a).filter (fun t => n.testBit t) := by
  rw [List.range_succ, List.filter_append]
  simp [h]
theorem opL_all (fm : Nat) : opL fm (2 ^ fm - 1) 0 = List.range fm := by
  unfold opL
  rw [List.filter_eq_self]
  intro j hj
  rw [Nat.testBit_two_pow_sub_one, decide_eq_true (List.mem_range.mp hj)]; simp
theorem bl_fm {n fm : Nat} (hf : fm ≤ 60) (h : n < 2 ^ fm) : bl n = (List.range fm).filter (fun t => n.testBit t) := by
  refine asc_ext (bl_asc n) (List.Pairwise.filter _ List.pairwise_lt_range) (fun x => ?_)
  rw [bl_mem, List.mem_filter, List.mem_range]
  constructor
  · rintro ⟨a, b⟩; exact ⟨bit_lt h b, b⟩
  · rintro ⟨a, b⟩; exact ⟨by omega, b⟩
set_option maxRecDepth 100000 in
set_option maxHeartbeats 400000 in
theorem c_Md_core {G : Gd} {z : Nat} {h : AH} {y : Nat} {th : Int32} {mk : Nat} {ts : Nat} {fs : Nat} {kd : Nat} {p : Nat} {q : Nat} {len : Nat} {ks : Nat} {fm : Nat} {cm : Nat} {be : Nat} {dz : Nat → Bool} {mn : Nat → Nat} {st : Nat → Nat} {tn : Nat → Nat} {tv : Nat → Nat} {fn : Nat → Nat} {fv : Nat → Nat} {on : Nat → Nat} {tw : Nat → Nat} {bf : Nat → Nat} {g1 : Nat → Nat} {g2 : Nat → Nat} {g3 : Nat → Nat} {sv : Nat → Nat} {fa : Nat → Int32} {fy : Nat → Nat} {bs : Nat → Nat} {cf : Nat → Nat} {av : Nat → Bool} {M L : Nat → List Nat} {W F : Nat → Nat} (r : Int32) (hI : mdI mk ts fs kd p q av M L W F dz mn st tn tv fn fv) (hM : mdC G h y th mk ts fs kd p q len ks fm cm be dz mn st tn tv fn fv on tw bf g1 g2 g3 sv fa fy bs cf)  : Ct G yX8_core cX8_core 5 (some .int) 24 0 0 [.ref y, .int r] z h (fun r' z' h' => z' = z ∧ fr y (y + 19) h h' ∧ ∃ w fa' fm' cm' be' fy' bs' cf', r' = some (.int w) ∧ ((avI av r = false ∧ w = -1 ∧ cm' = cm ∧ cf' = cf) ∨ ∃ k, r = nI k ∧ av k = true ∧ dOk (pE kd p q W L av) k fa' ∧ ((20 < (fmL fa' mk).length ∧ w = -2 ∧ cm' = cm ∧ cf' = cf) ∨ ((fmL fa' mk).length ≤ 20 ∧ ∃ (ad : Nat → Nat → Bool) (C : List Nat), (∀ a b, a < (fmL fa' mk).length → b < (fmL fa' mk).length → ad a b = pE kd p q W L av ((fmL fa' mk).getD a 0) ((fmL fa' mk).getD b 0)) ∧ C = gcl ad 20 [] (List.range (fmL fa' mk).length) [] ∧ C.length ≤ 20 ∧ cm' = C.length ∧ (∀ j, j < C.length → cf' j = (fmL fa' mk).getD (C.getD j 0) 0) ∧ w = nI C.length))) ∧ mdC G h' y (nI 0) mk ts fs kd p q len ks (fm') (cm') (be') dz mn st tn tv fn fv on tw bf g1 g2 g3 sv (fa') (fy') (bs') (cf')) := by
  refine Ct.of (lv := [_, _, _, _, _]) (by decide) (Nat.le_of_ble_eq_true rfl) rfl ?_
  rintro X rfl hX hR hnm
  obtain ⟨⟨hmk, hav, hdz⟩, hS, hT, hK, hL, hmo, hemp⟩ := id hI
  refine V_aload_n (pc' := 1) hX dX8_core_0 rfl rfl ?_
  refine V_iconst (pc' := 2) (v := nI 0) hX dX8_core_1 (by decide) rfl ?_
  refine V_put (pc' := 5) (fs' := [_, _, _, _, _, _, _, _, _, _, _, _, _, _, _, _, _, _, _, _, _, _, _, _, _, _, _, _, _, _]) (ty0 := tyX8) hX dX8_core_2 hM.1 rfl inX8 tyX8_ok nmX8 0 (by decide) wF_X8_75 rfl (tyX8_ok 0 (by decide)) rfl rfl (Nat.le_of_ble_eq_true rfl) rfl rfl ?_
  refine V.gen (fun h0 eh0 => ?_)
  have f0 := fr.of_up eh0
  have hM := hM.u0 (up_at eh0) f0
  have f0 := f0.mono (lo' := y) (hi' := y + 19) (by omega) (by omega)
  refine V_aload_n (pc' := 6) hX dX8_core_5 rfl rfl ?_
  refine V_iload_n (pc' := 7) hX dX8_core_6 rfl rfl ?_
  refine V_callV (nA := 1) (pc' := 10) (k' := 0) (n' := 0) hX dX8_core_7 (c_Md_is r hI hM) hM.1 rfl wM_X8_85 wI_X8_is wL_X8_is wN_X8 wC_X8_is rfl hy_X8_is rfl (Nat.le_of_ble_eq_true rfl) (by decide) (by omega) rfl rfl (by omega) rfl (by omega) rfl ?_
  rintro _ z h0 ⟨rfl, rfl, rfl⟩
  refine V.stk (st' := [_]) rfl ?_
  refine V_if_neB (pt := 15) (pc' := 13) hX dX8_core_10 rfl rfl (fun c10 => ?_) (fun c10 => ?_)
  · obtain ⟨k, hk31, rfl, hk⟩ := avI_yes c10
    have hkm := hav k hk
    refine V_aload_n (pc' := 16) hX dX8_core_15 rfl rfl ?_
    refine V_iload_n (pc' := 17) hX dX8_core_16 rfl rfl ?_
    refine V_callV (nA := 1) (pc' := 20) (k' := 0) (n' := 0) hX dX8_core_17 (c_Md_steps k hk hI hM) hM.1 rfl wM_X8_194 wI_X8_steps wL_X8_steps wN_X8 wC_X8_steps rfl hy_X8_steps rfl (Nat.le_of_ble_eq_true rfl) (by decide) (by omega) rfl rfl (by omega) rfl (by omega) rfl ?_
    rintro _ z h1 ⟨rfl, rfl, f1, fa1, hdk, hM⟩
    have f0 := f0.tr (f1.mono (lo' := y) (hi' := y + 19) (by omega) (by omega))
    refine V.stk (st' := []) rfl ?_
    refine V_iconst (pc' := 21) (v := nI 0) hX dX8_core_20 (by decide) rfl ?_
    refine V_istore_n (pc' := 22) (lv' := [_, _, _, _, _]) hX dX8_core_21 (Nat.le_of_ble_eq_true rfl) rfl rfl ?_
    refine V_iconst (pc' := 23) (v := nI 0) hX dX8_core_22 (by decide) rfl ?_
    refine V_istore_n (pc' := 24) (lv' := [_, _, _, _, _]) hX dX8_core_23 (Nat.le_of_ble_eq_true rfl) rfl rfl ?_
    have lc : ∀ (μ s : Nat), s ≤ mk → mk - s < μ → V X 0 0 z h1 24 [some (.ref y), some (.int (nI k)), some (.int (nI (sm (fun s => if fa1 s = -1 then 0 else 1) s))), some (.int (nI s)), none] [] := by
      intro μ
      induction μ with
      | zero => intros; omega
      | succ μ ih =>
        intro s b1 b3
        have hsb : sm (fun s => if fa1 s = -1 then 0 else 1) s ≤ s * 1 := sm_bd (fun j _ => by show (if fa1 j = -1 then 0 else 1) ≤ 1; split <;> omega)
        refine V_iload_n (pc' := 25) hX dX8_core_24 rfl rfl ?_
        refine V_aload_n (pc' := 26) hX dX8_core_25 rfl rfl ?_
        refine V_get (pc' := 29) hX dX8_core_26 hM.1 rfl inX8 1 (by decide) wF_X8_78 rfl rfl ?_
        refine V_icmp_geN (pt := 56) (pc' := 32) hX dX8_core_29 (by omega) (by omega) rfl rfl (fun c29 => ?_) (fun c29 => ?_)
        · have es : s = mk := by omega
          rw [es] at hsb
          rw [es]
          have hlen := fmL_len (fa := fa1) mk
          refine V_iload_n (pc' := 57) hX dX8_core_56 rfl rfl ?_
          refine V_bipush (pc' := 59) (v := nI 20) hX dX8_core_57 (by decide) rfl ?_
          refine V_icmp_leN (pt := 65) (pc' := 62) hX dX8_core_59 (by omega) (by omega) rfl rfl (fun c59 => ?_) (fun c59 => ?_)
          · refine V_aload_n (pc' := 66) hX dX8_core_65 rfl rfl ?_
            refine V_iconst (pc' := 67) (v := nI 0) hX dX8_core_66 (by decide) rfl ?_
            refine V_put (pc' := 70) (fs' := [_, _, _, _, _, _, _, _, _, _, _, _, _, _, _, _, _, _, _, _, _, _, _, _, _, _, _, _, _, _]) (ty0 := tyX8) hX dX8_core_67 hM.1 rfl inX8 tyX8_ok nmX8 24 (by decide) wF_X8_205 rfl (tyX8_ok 24 (by decide)) rfl rfl (Nat.le_of_ble_eq_true rfl) rfl rfl ?_
            refine V.gen (fun h2 eh2 => ?_)
            have f9 := fr.of_up eh2
            have hM := hM.u0 (up_at eh2) f9
            have f0 := f0.tr (f9.mono (lo' := y) (hi' := y + 19) (by omega) (by omega))
            refine V_iconst (pc' := 71) (v := nI 0) hX dX8_core_70 (by decide) rfl ?_
            refine V_istore_n (pc' := 72) (lv' := [_, _, _, _, _]) hX dX8_core_71 (Nat.le_of_ble_eq_true rfl) rfl rfl ?_
            have lf : ∀ (μ s : Nat) (h2 : AH) (fy2 : Nat → Nat), s ≤ mk → (∀ j, j < (fmL fa1 s).length → fy2 j = (fmL fa1 s).getD j 0) → fr y (y + 19) h h2 → mdC X.G h2 y (nI 0) mk ts fs kd p q len ks ((fmL fa1 s).length) cm be dz mn st tn tv fn fv on tw bf g1 g2 g3 sv (fa1) (fy2) bs cf → mk - s < μ → V X 0 0 z h2 72 [some (.ref y), some (.int (nI k)), some (.int (nI (sm (fun s => if fa1 s = -1 then 0 else 1) mk))), some (.int (nI s)), none] [] := by
              intro μ
              induction μ with
              | zero => intros; omega
              | succ μ ih =>
                intro s h2 fy2 a1 a2 f0 hM a5
                have hfs := fmL_mono (fa := fa1) a1
                refine V_iload_n (pc' := 73) hX dX8_core_72 rfl rfl ?_
                refine V_aload_n (pc' := 74) hX dX8_core_73 rfl rfl ?_
                refine V_get (pc' := 77) hX dX8_core_74 hM.1 rfl inX8 1 (by decide) wF_X8_78 rfl rfl ?_
                refine V_icmp_geN (pt := 119) (pc' := 80) hX dX8_core_77 (by omega) (by omega) rfl rfl (fun c77 => ?_) (fun c77 => ?_)
                · have es : s = mk := by omega
                  rw [es] at a2 hM hfs
                  refine V_iconst (pc' := 120) (v := nI 0) hX dX8_core_119 (by decide) rfl ?_
                  refine V_istore_n (pc' := 121) (lv' := [_, _, _, _, _]) hX dX8_core_120 (Nat.le_of_ble_eq_true rfl) rfl rfl ?_
                  have lk : ∀ (μ a : Nat) (h3 : AH) (bs3 : Nat → Nat), a ≤ (fmL fa1 mk).length → (∀ c, c < a → bs3 c < 2 ^ 20 ∧ ∀ b, (bs3 c).testBit b = (decide (b < (fmL fa1 mk).length) && pE kd p q W L av ((fmL fa1 mk).getD c 0) ((fmL fa1 mk).getD b 0))) → fr y (y + 19) h h3 → mdC X.G h3 y (nI 0) mk ts fs kd p q len ks ((fmL fa1 mk).length) cm be dz mn st tn tv fn fv on tw bf g1 g2 g3 sv (fa1) (fy2) (bs3) cf → (fmL fa1 mk).length - a < μ → V X 0 0 z h3 121 [some (.ref y), some (.int (nI k)), none, some (.int (nI a)), none] [] := by
                    intro μ
                    induction μ with
                    | zero => intros; omega
                    | succ μ ih =>
                      intro a h3 bs3 b1 b2 f0 hM b3
                      refine V_iload_n (pc' := 122) hX dX8_core_121 rfl rfl ?_
                      refine V_aload_n (pc' := 123) hX dX8_core_122 rfl rfl ?_
                      refine V_get (pc' := 126) hX dX8_core_123 hM.1 rfl inX8 24 (by decide) wF_X8_205 rfl rfl ?_
                      refine V_icmp_geN (pt := 199) (pc' := 129) hX dX8_core_126 (by omega) (by omega) rfl rfl (fun c126 => ?_) (fun c126 => ?_)
                      · refine V_aload_n (pc' := 200) hX dX8_core_199 rfl rfl ?_
                        refine V_iconst (pc' := 201) (v := nI 0) hX dX8_core_200 (by decide) rfl ?_
                        refine V_put (pc' := 204) (fs' := [_, _, _, _, _, _, _, _, _, _, _, _, _, _, _, _, _, _, _, _, _, _, _, _, _, _, _, _, _, _]) (ty0 := tyX8) hX dX8_core_201 hM.1 rfl inX8 tyX8_ok nmX8 29 (by decide) wF_X8_197 rfl (tyX8_ok 29 (by decide)) rfl rfl (Nat.le_of_ble_eq_true rfl) rfl rfl ?_
                        refine V.gen (fun h4 eh4 => ?_)
                        have f9 := fr.of_up eh4
                        have hM := hM.u0 (up_at eh4) f9
                        have f0 := f0.tr (f9.mono (lo' := y) (hi' := y + 19) (by omega) (by omega))
                        refine V_aload_n (pc' := 205) hX dX8_core_204 rfl rfl ?_
                        refine V_iconst (pc' := 206) (v := nI 0) hX dX8_core_205 (by decide) rfl ?_
                        refine V_iconst (pc' := 207) (v := nI 1) hX dX8_core_206 (by decide) rfl ?_
                        refine V_aload_n (pc' := 208) hX dX8_core_207 rfl rfl ?_
                        refine V_get (pc' := 211) hX dX8_core_208 hM.1 rfl inX8 24 (by decide) wF_X8_205 rfl rfl ?_
                        refine V_ishl (pc' := 212) hX dX8_core_211 rfl ?_
                        rw [nI_bit _ (by omega)]
                        refine V_iconst (pc' := 213) (v := nI 1) hX dX8_core_212 (by decide) rfl ?_
                        refine V_isubN (pc' := 214) hX dX8_core_213 (Nat.one_le_two_pow) rfl ?_
                        refine V_iconst (pc' := 215) (v := nI 0) hX dX8_core_214 (by decide) rfl ?_
                        refine V_iconst (pc' := 216) (v := nI 0) hX dX8_core_215 (by decide) rfl ?_
                        refine V_callV (nA := 4) (pc' := 219) (k' := 0) (n' := 0) hX dX8_core_216 (c_Md_grow 20 h4 0 0 (2 ^ (fmL fa1 mk).length - 1) 0 0 hM (by omega) ⟨by omega, by omega⟩ (by rw [bl_0]; rfl) (by have := Nat.two_pow_pos (fmL fa1 mk).length; omega) (Nat.two_pow_pos _) (Nat.two_pow_pos _) (fun i hi => by rw [bl_0] at hi; cases hi) (fun c hc => (b2 c (by omega)).1)) hM.1 rfl wM_X8_208 wI_X8_grow wL_X8_grow wN_X8 wC_X8_grow rfl hy_X8_grow rfl (Nat.le_of_ble_eq_true rfl) (by decide) (by omega) rfl rfl (by omega) rfl (by omega) rfl ?_
                        rintro _ z h5 ⟨rfl, rfl, f5, be9, hb9, eb9, hM⟩
                        have f0 := f0.tr (f5.mono (lo' := y) (hi' := y + 19) (by omega) (by omega))
                        rw [bl_0, opL_all] at eb9
                        refine V.stk (st' := []) rfl ?_
                        refine V_aload_n (pc' := 220) hX dX8_core_219 rfl rfl ?_
                        refine V_iconst (pc' := 221) (v := nI 0) hX dX8_core_220 (by decide) rfl ?_
                        refine V_put (pc' := 224) (fs' := [_, _, _, _, _, _, _, _, _, _, _, _, _, _, _, _, _, _, _, _, _, _, _, _, _, _, _, _, _, _]) (ty0 := tyX8) hX dX8_core_221 hM.1 rfl inX8 tyX8_ok nmX8 25 (by decide) wF_X8_212 rfl (tyX8_ok 25 (by decide)) rfl rfl (Nat.le_of_ble_eq_true rfl) rfl rfl ?_
                        refine V.gen (fun h6 eh6 => ?_)
                        have f9 := fr.of_up eh6
                        have hM := hM.u0 (up_at eh6) f9
                        have f0 := f0.tr (f9.mono (lo' := y) (hi' := y + 19) (by omega) (by omega))
                        refine V_iconst (pc' := 225) (v := nI 0) hX dX8_core_224 (by decide) rfl ?_
                        refine V_istore_n (pc' := 226) (lv' := [_, _, _, _, _]) hX dX8_core_225 (Nat.le_of_ble_eq_true rfl) rfl rfl ?_
                        have lo : ∀ (μ a : Nat) (h6 : AH) (cf6 : Nat → Nat), a ≤ (fmL fa1 mk).length → (∀ j, j < ((List.range a).filter (fun t => be9.testBit t)).length → cf6 j = (fmL fa1 mk).getD (((List.range a).filter (fun t => be9.testBit t)).getD j 0) 0) → fr y (y + 19) h h6 → mdC X.G h6 y (nI 0) mk ts fs kd p q len ks ((fmL fa1 mk).length) (((List.range a).filter (fun t => be9.testBit t)).length) (be9) dz mn st tn tv fn fv on tw bf g1 g2 g3 sv (fa1) (fy2) (bs3) (cf6) → (fmL fa1 mk).length - a < μ → V X 0 0 z h6 226 [some (.ref y), some (.int (nI k)), none, some (.int (nI a)), none] [] := by
                          intro μ
                          induction μ with
                          | zero => intros; omega
                          | succ μ ih =>
                            intro a h6 cf6 d1 d2 f0 hM d3
                            have hbl : ((List.range a).filter (fun t => be9.testBit t)).length ≤ a := by
                              refine Nat.le_trans (List.length_filter_le _ _) ?_
                              rw [List.length_range]; exact Nat.le_refl _
                            refine V_iload_n (pc' := 227) hX dX8_core_226 rfl rfl ?_
                            refine V_aload_n (pc' := 228) hX dX8_core_227 rfl rfl ?_
                            refine V_get (pc' := 231) hX dX8_core_228 hM.1 rfl inX8 24 (by decide) wF_X8_205 rfl rfl ?_
                            refine V_icmp_geN (pt := 279) (pc' := 234) hX dX8_core_231 (by omega) (by omega) rfl rfl (fun c231 => ?_) (fun c231 => ?_)
                            · refine V_aload_n (pc' := 280) hX dX8_core_279 rfl rfl ?_
                              refine V_get (pc' := 283) hX dX8_core_280 hM.1 rfl inX8 25 (by decide) wF_X8_212 rfl rfl ?_
                              refine V_iret hX hR dX8_core_283 ?_
                              have ea : a = (fmL fa1 mk).length := by omega
                              subst ea
                              have eC : (List.range (fmL fa1 mk).length).filter (fun t => be9.testBit t) = (gcl (adjF bs3) 20 [] (List.range (fmL fa1 mk).length) []) := by rw [← eb9]; exact (bl_fm (by omega) hb9).symm
                              rw [eC] at d2 hbl hM
                              refine ⟨rfl, f0, _, fa1, _, _, _, _, _, _, rfl, Or.inr ⟨k, rfl, hk, hdk, Or.inr ⟨by omega, adjF bs3, (gcl (adjF bs3) 20 [] (List.range (fmL fa1 mk).length) []), fun x b hx hb => ?_, rfl, by omega, rfl, d2, by rw [eC]⟩⟩, hM⟩
                              have h9 := (b2 x (by omega)).2 b
                              rw [decide_eq_true hb, Bool.true_and] at h9
                              exact h9
                            · refine V_aload_n (pc' := 235) hX dX8_core_234 rfl rfl ?_
                              refine V_get (pc' := 238) hX dX8_core_235 hM.1 rfl inX8 29 (by decide) wF_X8_197 rfl rfl ?_
                              refine V_iload_n (pc' := 239) hX dX8_core_238 rfl rfl ?_
                              refine V_ishr (pc' := 240) hX dX8_core_239 rfl ?_
                              rw [nI_shr (Nat.lt_of_lt_of_le hb9 (Nat.pow_le_pow_right (by decide) (show (fmL fa1 mk).length ≤ 31 by omega))) (by omega)]
                              refine V_iconst (pc' := 241) (v := nI 1) hX dX8_core_240 (by decide) rfl ?_
                              refine V_iand (pc' := 242) hX dX8_core_241 rfl ?_
                              rw [nI_and, Nat.and_one_is_mod]
                              refine V_if_neN (pt := 248) (pc' := 245) hX dX8_core_242 (by omega) rfl rfl (fun c242 => ?_) (fun c242 => ?_)
                              · have hbit : be9.testBit a = true := by rw [Nat.testBit_eq_decide_div_mod_eq]; exact decide_eq_true (by omega)
                                refine V_aload_n (pc' := 249) hX dX8_core_248 rfl rfl ?_
                                refine V_get (pc' := 252) hX dX8_core_249 hM.1 rfl inX8 28 (by decide) wF_X8_72 rfl rfl ?_
                                refine V_aload_n (pc' := 253) hX dX8_core_252 rfl rfl ?_
                                refine V_get (pc' := 256) hX dX8_core_253 hM.1 rfl inX8 25 (by decide) wF_X8_212 rfl rfl ?_
                                refine V_aload_n (pc' := 257) hX dX8_core_256 rfl rfl ?_
                                refine V_get (pc' := 260) hX dX8_core_257 hM.1 rfl inX8 26 (by decide) wF_X8_66 rfl rfl ?_
                                refine V_iload_n (pc' := 261) hX dX8_core_260 rfl rfl ?_
                                refine V_ialdN (pc' := 262) (v := nI ((fmL fa1 mk).getD a 0)) hX dX8_core_261 hM.2.2.2.2.2.2.2.2.2.2.2.2.2.2.2.2.1 (by omega) (by omega) (by rw [a2 a (by omega)]) rfl ?_
                                refine V_iastN (pc' := 263) hX dX8_core_262 hM.2.2.2.2.2.2.2.2.2.2.2.2.2.2.2.2.2.2 (by omega) (by omega) rfl ?_
                                refine V.gen (fun h7 eh7 => ?_)
                                have f9 := fr.of_up eh7
                                have hM := hM.u18 (up_at eh7) f9
                                have f0 := f0.tr (f9.mono (lo' := y) (hi' := y + 19) (by omega) (by omega))
                                refine V_aload_n (pc' := 264) hX dX8_core_263 rfl rfl ?_
                                refine V_dup (pc' := 265) hX dX8_core_264 rfl rfl ?_
                                refine V_get (pc' := 268) hX dX8_core_265 hM.1 rfl inX8 25 (by decide) wF_X8_212 rfl rfl ?_
                                refine V_iconst (pc' := 269) (v := nI 1) hX dX8_core_268 (by decide) rfl ?_
                                refine V_iaddN (pc' := 270) hX dX8_core_269 rfl ?_
                                refine V_put (pc' := 273) (fs' := [_, _, _, _, _, _, _, _, _, _, _, _, _, _, _, _, _, _, _, _, _, _, _, _, _, _, _, _, _, _]) (ty0 := tyX8) hX dX8_core_270 hM.1 rfl inX8 tyX8_ok nmX8 25 (by decide) wF_X8_212 rfl (tyX8_ok 25 (by decide)) rfl rfl (Nat.le_of_ble_eq_true rfl) rfl rfl ?_
                                refine V.gen (fun h8 eh8 => ?_)
                                have f9 := fr.of_up eh8
                                have hM := hM.u0 (up_at eh8) f9
                                have f0 := f0.tr (f9.mono (lo' := y) (hi' := y + 19) (by omega) (by omega))
                                refine V_iincN (pc' := 276) (j := 1) (lv' := [_, _, _, _, _]) hX dX8_core_273 rfl rfl rfl rfl ?_
                                refine V_goto (pc' := 226) hX dX8_core_276 rfl ?_
                                refine V.loc2 (lv' := [some _, some _, none, some _, none]) ⟨rfl, rfl, rfl, trivial⟩ ?_
                                first
                                  | (have e9 : (List.range (a + 1)).filter (fun t => be9.testBit t) = (List.range a).filter (fun t => be9.testBit t) ++ [a] := bk_yes hbit
                                     exact ih (a + 1) _ (va_up cf6 ((List.range a).filter (fun t => be9.testBit t)).length ((fmL fa1 mk).getD a 0)) (by omega) (fun j hj => by
                                       rw [e9] at hj ⊢
                                       rw [List.length_append, List.length_singleton] at hj
                                       by_cases e : j = ((List.range a).filter (fun t => be9.testBit t)).length
                                       · rw [e, vu_at, getD_app2]
                                       · rw [vu_ne _ _ e, getD_app1 (by omega)]; exact d2 j (by omega)) f0 (by rw [e9, List.length_append, List.length_singleton]; exact hM) (by omega))
                                  | (have e9 : (List.range (a + 1)).filter (fun t => be9.testBit t) = (List.range a).filter (fun t => be9.testBit t) := bk_no hbit
                                     exact ih (a + 1) _ cf6 (by omega) (by rw [e9]; exact d2) f0 (by rw [e9]; exact hM) (by omega))
                              · have hbit : be9.testBit a = false := by rw [Nat.testBit_eq_decide_div_mod_eq]; exact decide_eq_false (by omega)
                                refine V_goto (pc' := 273) hX dX8_core_245 rfl ?_
                                refine V_iincN (pc' := 276) (j := 1) (lv' := [_, _, _, _, _]) hX dX8_core_273 rfl rfl rfl rfl ?_
                                refine V_goto (pc' := 226) hX dX8_core_276 rfl ?_
                                refine V.loc2 (lv' := [some _, some _, none, some _, none]) ⟨rfl, rfl, rfl, trivial⟩ ?_
                                first
                                  | (have e9 : (List.range (a + 1)).filter (fun t => be9.testBit t) = (List.range a).filter (fun t => be9.testBit t) ++ [a] := bk_yes hbit
                                     exact ih (a + 1) _ (va_up cf6 ((List.range a).filter (fun t => be9.testBit t)).length ((fmL fa1 mk).getD a 0)) (by omega) (fun j hj => by
                                       rw [e9] at hj ⊢
                                       rw [List.length_append, List.length_singleton] at hj
                                       by_cases e : j = ((List.range a).filter (fun t => be9.testBit t)).length
                                       · rw [e, vu_at, getD_app2]
                                       · rw [vu_ne _ _ e, getD_app1 (by omega)]; exact d2 j (by omega)) f0 (by rw [e9, List.length_append, List.length_singleton]; exact hM) (by omega))
                                  | (have e9 : (List.range (a + 1)).filter (fun t => be9.testBit t) = (List.range a).filter (fun t => be9.testBit t) := bk_no hbit
                                     exact ih (a + 1) _ cf6 (by omega) (by rw [e9]; exact d2) f0 (by rw [e9]; exact hM) (by omega))
                        refine V.loc2 (lv' := [some _, some _, none, some _, none]) ⟨rfl, rfl, rfl, trivial⟩ ?_
                        exact lo ((fmL fa1 mk).length + 1) 0 _ cf (by omega) (fun j hj => absurd hj (by simp)) f0 hM (by omega)
                      · have ihK := ih
                        refine V_aload_n (pc' := 130) hX dX8_core_129 rfl rfl ?_
                        refine V_get (pc' := 133) hX dX8_core_130 hM.1 rfl inX8 27 (by decide) wF_X8_69 rfl rfl ?_
                        refine V_iload_n (pc' := 134) hX dX8_core_133 rfl rfl ?_
                        refine V_iconst (pc' := 135) (v := nI 0) hX dX8_core_134 (by decide) rfl ?_
                        refine V_iastN (pc' := 136) hX dX8_core_135 hM.2.2.2.2.2.2.2.2.2.2.2.2.2.2.2.2.2.1 (by omega) (by omega) rfl ?_
                        refine V.gen (fun h4 eh4 => ?_)
                        have f9 := fr.of_up eh4
                        have hM := hM.u17 (up_at eh4) f9
                        have f0 := f0.tr (f9.mono (lo' := y) (hi' := y + 19) (by omega) (by omega))
                        refine V_iconst (pc' := 137) (v := nI 0) hX dX8_core_136 (by decide) rfl ?_
                        refine V_istore (pc' := 139) (lv' := [_, _, _, _, _]) hX dX8_core_137 (Nat.le_of_ble_eq_true rfl) rfl rfl ?_
                        have lj : ∀ (ν j : Nat) (h4 : AH) (bs4 : Nat → Nat), j ≤ (fmL fa1 mk).length → bs4 a < 2 ^ 20 → (∀ b, (bs4 a).testBit b = (decide (b < j) && pE kd p q W L av ((fmL fa1 mk).getD a 0) ((fmL fa1 mk).getD b 0))) → (∀ c, c ≠ a → bs4 c = bs3 c) → fr y (y + 19) h h4 → mdC X.G h4 y (nI 0) mk ts fs kd p q len ks ((fmL fa1 mk).length) cm be dz mn st tn tv fn fv on tw bf g1 g2 g3 sv (fa1) (fy2) (bs4) cf → (fmL fa1 mk).length - j < ν → V X 0 0 z h4 139 [some (.ref y), some (.int (nI k)), none, some (.int (nI a)), some (.int (nI j))] [] := by
                          intro μ
                          induction μ with
                          | zero => intros; omega
                          | succ μ ih =>
                            intro j h4 bs4 e1 e2 e3 e4 f0 hM e5
                            refine V_iload (pc' := 141) hX dX8_core_139 rfl rfl ?_
                            refine V_aload_n (pc' := 142) hX dX8_core_141 rfl rfl ?_
                            refine V_get (pc' := 145) hX dX8_core_142 hM.1 rfl inX8 24 (by decide) wF_X8_205 rfl rfl ?_
                            refine V_icmp_geN (pt := 193) (pc' := 148) hX dX8_core_145 (by omega) (by omega) rfl rfl (fun c145 => ?_) (fun c145 => ?_)
                            · refine V_iincN (pc' := 196) (j := 1) (lv' := [_, _, _, _, _]) hX dX8_core_193 rfl rfl rfl rfl ?_
                              refine V_goto (pc' := 121) hX dX8_core_196 rfl ?_
                              refine V.loc2 (lv' := [some _, some _, none, some _, none]) ⟨rfl, rfl, rfl, trivial⟩ ?_
                              exact ihK (a + 1) _ _ (by omega) (fun a0 ha => by
                                by_cases e : a0 = a
                                · rw [e]; exact ⟨e2, fun b => by rw [e3 b, show j = (fmL fa1 mk).length by omega]⟩
                                · rw [e4 a0 e]; exact b2 a0 (by omega)) f0 hM (by omega)
                            · have hma := getD_mem (L := (fmL fa1 mk)) (j := a) (by omega)
                              have hmj := getD_mem (L := (fmL fa1 mk)) (j := j) (by omega)
                              have haa : av ((fmL fa1 mk).getD a 0) = true := fmL_av hk hdk hmk hma
                              have haj : av ((fmL fa1 mk).getD j 0) = true := fmL_av hk hdk hmk hmj
                              refine V_iload (pc' := 150) hX dX8_core_148 rfl rfl ?_
                              refine V_iload_n (pc' := 151) hX dX8_core_150 rfl rfl ?_
                              refine V_icmp_eqN (pt := 187) (pc' := 154) hX dX8_core_151 (by omega) (by omega) rfl rfl (fun c151 => ?_) (fun c151 => ?_)
                              · have hpe : pE kd p q W L av ((fmL fa1 mk).getD a 0) ((fmL fa1 mk).getD j 0) = false := by
                                  cases hx : pE kd p q W L av ((fmL fa1 mk).getD a 0) ((fmL fa1 mk).getD j 0) with
                                  | false => rfl
                                  | true => exact absurd (by rw [c151]) (pE_av hx).2.2
                                refine V_iincN (pc' := 190) (j := 1) (lv' := [_, _, _, _, _]) hX dX8_core_187 rfl rfl rfl rfl ?_
                                refine V_goto (pc' := 139) hX dX8_core_190 rfl ?_
                                refine V.loc2 (lv' := [some _, some _, none, some _, some _]) ⟨rfl, rfl, rfl, rfl, trivial⟩ ?_
                                first
                                  | exact ih (j + 1) _ _ (by omega) (by rw [vu_at]; exact Nat.or_lt_two_pow e2 (Nat.pow_lt_pow_right (by decide) (by omega))) (fun b => by
                                      rw [vu_at, or_bit, e3 b]
                                      by_cases w9 : b = j
                                      · rw [w9, decide_eq_false (show ¬ j < j by omega), decide_eq_true (show j = j from rfl), decide_eq_true (show j < j + 1 by omega), hpe]; rfl
                                      · rw [decide_eq_false (show ¬ j = b from fun e => w9 e.symm), Bool.or_false]
                                        congr 1
                                        exact decide_eq_decide.mpr (by omega)) (fun c hc => by rw [vu_ne _ _ hc]; exact e4 c hc) f0 hM (by omega)
                                  | exact ih (j + 1) _ _ (by omega) e2 (fun b => by
                                      rw [e3 b]
                                      by_cases w9 : b = j
                                      · rw [w9, hpe, Bool.and_false, Bool.and_false]
                                      · congr 1
                                        exact decide_eq_decide.mpr (by omega)) e4 f0 hM (by omega)
                              · have hne : (fmL fa1 mk).getD a 0 ≠ (fmL fa1 mk).getD j 0 := fmL_ne (by omega) (by omega) (fun e => c151 e.symm)
                                refine V_aload_n (pc' := 155) hX dX8_core_154 rfl rfl ?_
                                refine V_aload_n (pc' := 156) hX dX8_core_155 rfl rfl ?_
                                refine V_get (pc' := 159) hX dX8_core_156 hM.1 rfl inX8 26 (by decide) wF_X8_66 rfl rfl ?_
                                refine V_iload_n (pc' := 160) hX dX8_core_159 rfl rfl ?_
                                refine V_ialdN (pc' := 161) (v := nI ((fmL fa1 mk).getD a 0)) hX dX8_core_160 hM.2.2.2.2.2.2.2.2.2.2.2.2.2.2.2.2.1 (by omega) (by omega) (by rw [a2 a (by omega)]) rfl ?_
                                refine V_aload_n (pc' := 162) hX dX8_core_161 rfl rfl ?_
                                refine V_get (pc' := 165) hX dX8_core_162 hM.1 rfl inX8 26 (by decide) wF_X8_66 rfl rfl ?_
                                refine V_iload (pc' := 167) hX dX8_core_165 rfl rfl ?_
                                refine V_ialdN (pc' := 168) (v := nI ((fmL fa1 mk).getD j 0)) hX dX8_core_167 hM.2.2.2.2.2.2.2.2.2.2.2.2.2.2.2.2.1 (by omega) (by omega) (by rw [a2 j (by omega)]) rfl ?_
                                refine V_callV (nA := 2) (pc' := 171) (k' := 0) (n' := 0) hX dX8_core_168 (c_Md_isPair ((fmL fa1 mk).getD a 0) ((fmL fa1 mk).getD j 0) haa haj hI hM) hM.1 rfl wM_X8_168 wI_X8_isPair wL_X8_isPair wN_X8 wC_X8_isPair rfl hy_X8_isPair rfl (Nat.le_of_ble_eq_true rfl) (by decide) (by omega) rfl rfl (by omega) rfl (by omega) rfl ?_
                                rintro _ z h4 ⟨rfl, rfl, rfl⟩
                                rw [← pE_on haa haj hne]
                                refine V.stk (st' := [_]) rfl ?_
                                refine V_if_eqB (pt := 187) (pc' := 174) hX dX8_core_171 rfl rfl (fun c171 => ?_) (fun c171 => ?_)
                                · have hpe := c171
                                  refine V_iincN (pc' := 190) (j := 1) (lv' := [_, _, _, _, _]) hX dX8_core_187 rfl rfl rfl rfl ?_
                                  refine V_goto (pc' := 139) hX dX8_core_190 rfl ?_
                                  refine V.loc2 (lv' := [some _, some _, none, some _, some _]) ⟨rfl, rfl, rfl, rfl, trivial⟩ ?_
                                  first
                                    | exact ih (j + 1) _ _ (by omega) (by rw [vu_at]; exact Nat.or_lt_two_pow e2 (Nat.pow_lt_pow_right (by decide) (by omega))) (fun b => by
                                        rw [vu_at, or_bit, e3 b]
                                        by_cases w9 : b = j
                                        · rw [w9, decide_eq_false (show ¬ j < j by omega), decide_eq_true (show j = j from rfl), decide_eq_true (show j < j + 1 by omega), hpe]; rfl
                                        · rw [decide_eq_false (show ¬ j = b from fun e => w9 e.symm), Bool.or_false]
                                          congr 1
                                          exact decide_eq_decide.mpr (by omega)) (fun c hc => by rw [vu_ne _ _ hc]; exact e4 c hc) f0 hM (by omega)
                                    | exact ih (j + 1) _ _ (by omega) e2 (fun b => by
                                        rw [e3 b]
                                        by_cases w9 : b = j
                                        · rw [w9, hpe, Bool.and_false, Bool.and_false]
                                        · congr 1
                                          exact decide_eq_decide.mpr (by omega)) e4 f0 hM (by omega)
                                · have hpe := c171
                                  refine V_aload_n (pc' := 175) hX dX8_core_174 rfl rfl ?_
                                  refine V_get (pc' := 178) hX dX8_core_175 hM.1 rfl inX8 27 (by decide) wF_X8_69 rfl rfl ?_
                                  refine V_iload_n (pc' := 179) hX dX8_core_178 rfl rfl ?_
                                  refine V_dup2_11 (pc' := 180) hX dX8_core_179 rfl rfl rfl ?_
                                  refine V_ialdN (pc' := 181) hX dX8_core_180 hM.2.2.2.2.2.2.2.2.2.2.2.2.2.2.2.2.2.1 (by omega) (by omega) rfl rfl ?_
                                  refine V_iconst (pc' := 182) (v := nI 1) hX dX8_core_181 (by decide) rfl ?_
                                  refine V_iload (pc' := 184) hX dX8_core_182 rfl rfl ?_
                                  refine V_ishl (pc' := 185) hX dX8_core_184 rfl ?_
                                  rw [nI_bit j (by omega)]
                                  refine V_ior (pc' := 186) hX dX8_core_185 rfl ?_
                                  rw [nI_or]
                                  refine V_iastN (pc' := 187) hX dX8_core_186 hM.2.2.2.2.2.2.2.2.2.2.2.2.2.2.2.2.2.1 (by omega) (by omega) rfl ?_
                                  refine V.gen (fun h5 eh5 => ?_)
                                  have f9 := fr.of_up eh5
                                  have hM := hM.u17 (up_at eh5) f9
                                  have f0 := f0.tr (f9.mono (lo' := y) (hi' := y + 19) (by omega) (by omega))
                                  refine V_iincN (pc' := 190) (j := 1) (lv' := [_, _, _, _, _]) hX dX8_core_187 rfl rfl rfl rfl ?_
                                  refine V_goto (pc' := 139) hX dX8_core_190 rfl ?_
                                  refine V.loc2 (lv' := [some _, some _, none, some _, some _]) ⟨rfl, rfl, rfl, rfl, trivial⟩ ?_
                                  first
                                    | exact ih (j + 1) _ _ (by omega) (by rw [vu_at]; exact Nat.or_lt_two_pow e2 (Nat.pow_lt_pow_right (by decide) (by omega))) (fun b => by
                                        rw [vu_at, or_bit, e3 b]
                                        by_cases w9 : b = j
                                        · rw [w9, decide_eq_false (show ¬ j < j by omega), decide_eq_true (show j = j from rfl), decide_eq_true (show j < j + 1 by omega), hpe]; rfl
                                        · rw [decide_eq_false (show ¬ j = b from fun e => w9 e.symm), Bool.or_false]
                                          congr 1
                                          exact decide_eq_decide.mpr (by omega)) (fun c hc => by rw [vu_ne _ _ hc]; exact e4 c hc) f0 hM (by omega)
                                    | exact ih (j + 1) _ _ (by omega) e2 (fun b => by
                                        rw [e3 b]
                                        by_cases w9 : b = j
                                        · rw [w9, hpe, Bool.and_false, Bool.and_false]
                                        · congr 1
                                          exact decide_eq_decide.mpr (by omega)) e4 f0 hM (by omega)
                        refine V.loc2 (lv' := [some _, some _, none, some _, some _]) ⟨rfl, rfl, rfl, rfl, trivial⟩ ?_
                        exact lj ((fmL fa1 mk).length + 1) 0 _ _ (by omega) (by rw [vu_at]; exact Nat.two_pow_pos 20) (fun b => by rw [vu_at, Nat.zero_testBit, decide_eq_false (by omega), Bool.false_and]) (fun c hc => vu_ne _ _ hc) f0 hM (by omega)
                  refine V.loc2 (lv' := [some _, some _, none, some _, none]) ⟨rfl, rfl, rfl, trivial⟩ ?_
                  exact lk ((fmL fa1 mk).length + 1) 0 h2 bs (by omega) (fun a0 ha => by omega) f0 hM (by omega)
                · refine V_aload_n (pc' := 81) hX dX8_core_80 rfl rfl ?_
                  refine V_get (pc' := 84) hX dX8_core_81 hM.1 rfl inX8 23 (by decide) wF_X8_63 rfl rfl ?_
                  refine V_iload_n (pc' := 85) hX dX8_core_84 rfl rfl ?_
                  refine V_ialdN (pc' := 86) (v := fa1 s) hX dX8_core_85 hM.2.2.2.2.2.2.2.2.2.2.2.2.2.2.2.1 (by omega) (by omega) rfl rfl ?_
                  refine V_iconst (pc' := 87) (v := (-1)) hX dX8_core_86 (by decide) rfl ?_
                  refine V_icmp_ne (pt := 93) (pc' := 90) hX dX8_core_87 rfl rfl (fun c87 => ?_) (fun c87 => ?_)
                  · have hs1 := fmL_mono (fa := fa1) (show s + 1 ≤ mk by omega)
                    rw [fmL_yes c87, List.length_append, List.length_singleton] at hs1
                    refine V_aload_n (pc' := 94) hX dX8_core_93 rfl rfl ?_
                    refine V_get (pc' := 97) hX dX8_core_94 hM.1 rfl inX8 26 (by decide) wF_X8_66 rfl rfl ?_
                    refine V_aload_n (pc' := 98) hX dX8_core_97 rfl rfl ?_
                    refine V_get (pc' := 101) hX dX8_core_98 hM.1 rfl inX8 24 (by decide) wF_X8_205 rfl rfl ?_
                    refine V_iload_n (pc' := 102) hX dX8_core_101 rfl rfl ?_
                    refine V_iastN (pc' := 103) hX dX8_core_102 hM.2.2.2.2.2.2.2.2.2.2.2.2.2.2.2.2.1 (by omega) (by omega) rfl ?_
                    refine V.gen (fun h3 eh3 => ?_)
                    have f9 := fr.of_up eh3
                    have hM := hM.u16 (up_at eh3) f9
                    have f0 := f0.tr (f9.mono (lo' := y) (hi' := y + 19) (by omega) (by omega))
                    refine V_aload_n (pc' := 104) hX dX8_core_103 rfl rfl ?_
                    refine V_dup (pc' := 105) hX dX8_core_104 rfl rfl ?_
                    refine V_get (pc' := 108) hX dX8_core_105 hM.1 rfl inX8 24 (by decide) wF_X8_205 rfl rfl ?_
                    refine V_iconst (pc' := 109) (v := nI 1) hX dX8_core_108 (by decide) rfl ?_
                    refine V_iaddN (pc' := 110) hX dX8_core_109 rfl ?_
                    refine V_put (pc' := 113) (fs' := [_, _, _, _, _, _, _, _, _, _, _, _, _, _, _, _, _, _, _, _, _, _, _, _, _, _, _, _, _, _]) (ty0 := tyX8) hX dX8_core_110 hM.1 rfl inX8 tyX8_ok nmX8 24 (by decide) wF_X8_205 rfl (tyX8_ok 24 (by decide)) rfl rfl (Nat.le_of_ble_eq_true rfl) rfl rfl ?_
                    refine V.gen (fun h4 eh4 => ?_)
                    have f9 := fr.of_up eh4
                    have hM := hM.u0 (up_at eh4) f9
                    have f0 := f0.tr (f9.mono (lo' := y) (hi' := y + 19) (by omega) (by omega))
                    refine V_iincN (pc' := 116) (j := 1) (lv' := [_, _, _, _, _]) hX dX8_core_113 rfl rfl rfl rfl ?_
                    refine V_goto (pc' := 72) hX dX8_core_116 rfl ?_
                    refine V.loc2 (lv' := [some _, some _, some _, some _, none]) ⟨rfl, rfl, rfl, rfl, trivial⟩ ?_
                    first
                      | (have e9 : (fmL fa1 (s + 1)) = (fmL fa1 s) ++ [s] := fmL_yes c87
                         exact ih (s + 1) _ (va_up fy2 (fmL fa1 s).length s) (by omega) (fun j hj => by
                           rw [e9] at hj ⊢
                           rw [List.length_append, List.length_singleton] at hj
                           by_cases e : j = (fmL fa1 s).length
                           · rw [e, vu_at, getD_app2]
                           · rw [vu_ne _ _ e, getD_app1 (by omega)]; exact a2 j (by omega)) f0 (by rw [e9, List.length_append, List.length_singleton]; exact hM) (by omega))
                      | (have e9 : (fmL fa1 (s + 1)) = (fmL fa1 s) := fmL_no c87
                         exact ih (s + 1) _ fy2 (by omega) (by rw [e9]; exact a2) f0 (by rw [e9]; exact hM) (by omega))
                  · refine V_goto (pc' := 113) hX dX8_core_90 rfl ?_
                    refine V_iincN (pc' := 116) (j := 1) (lv' := [_, _, _, _, _]) hX dX8_core_113 rfl rfl rfl rfl ?_
                    refine V_goto (pc' := 72) hX dX8_core_116 rfl ?_
                    refine V.loc2 (lv' := [some _, some _, some _, some _, none]) ⟨rfl, rfl, rfl, rfl, trivial⟩ ?_
                    first
                      | (have e9 : (fmL fa1 (s + 1)) = (fmL fa1 s) ++ [s] := fmL_yes c87
                         exact ih (s + 1) _ (va_up fy2 (fmL fa1 s).length s) (by omega) (fun j hj => by
                           rw [e9] at hj ⊢
                           rw [List.length_append, List.length_singleton] at hj
                           by_cases e : j = (fmL fa1 s).length
                           · rw [e, vu_at, getD_app2]
                           · rw [vu_ne _ _ e, getD_app1 (by omega)]; exact a2 j (by omega)) f0 (by rw [e9, List.length_append, List.length_singleton]; exact hM) (by omega))
                      | (have e9 : (fmL fa1 (s + 1)) = (fmL fa1 s) := fmL_no c87
                         exact ih (s + 1) _ fy2 (by omega) (by rw [e9]; exact a2) f0 (by rw [e9]; exact hM) (by omega))
            refine V.loc2 (lv' := [some _, some _, some _, some _, none]) ⟨rfl, rfl, rfl, rfl, trivial⟩ ?_
            exact lf (mk + 1) 0 _ fy (by omega) (fun j hj => absurd hj (by simp [fmL])) f0 hM (by omega)
          · refine V_bipush (pc' := 64) (v := (-2)) hX dX8_core_62 (by decide) rfl ?_
            refine V_iret hX hR dX8_core_64 ?_
            exact ⟨rfl, f0, _, fa1, fm, cm, be, fy, bs, cf, rfl, Or.inr ⟨k, rfl, hk, hdk, Or.inl ⟨by omega, rfl, rfl, rfl⟩⟩, hM⟩
        · refine V_iload_n (pc' := 33) hX dX8_core_32 rfl rfl ?_
          refine V_aload_n (pc' := 34) hX dX8_core_33 rfl rfl ?_
          refine V_get (pc' := 37) hX dX8_core_34 hM.1 rfl inX8 23 (by decide) wF_X8_63 rfl rfl ?_
          refine V_iload_n (pc' := 38) hX dX8_core_37 rfl rfl ?_
          refine V_ialdN (pc' := 39) (v := fa1 s) hX dX8_core_38 hM.2.2.2.2.2.2.2.2.2.2.2.2.2.2.2.1 (by omega) (by omega) rfl rfl ?_
          refine V_iconst (pc' := 40) (v := (-1)) hX dX8_core_39 (by decide) rfl ?_
          refine V_icmp_eq (pt := 47) (pc' := 43) hX dX8_core_40 rfl rfl (fun c40 => ?_) (fun c40 => ?_)
          · refine V_iconst (pc' := 48) (v := nI 0) hX dX8_core_47 (by decide) rfl ?_
            refine V_iaddN (pc' := 49) hX dX8_core_48 rfl ?_
            refine V_istore_n (pc' := 50) (lv' := [_, _, _, _, _]) hX dX8_core_49 (Nat.le_of_ble_eq_true rfl) rfl rfl ?_
            refine V_iincN (pc' := 53) (j := 1) (lv' := [_, _, _, _, _]) hX dX8_core_50 rfl rfl rfl rfl ?_
            refine V_goto (pc' := 24) hX dX8_core_53 rfl ?_
            refine V.loc2 (lv' := [some _, some _, some _, some _, none]) ⟨rfl, rfl, rfl, rfl, trivial⟩ ?_
            first
              | (rw [show sm (fun s => if fa1 s = -1 then 0 else 1) s + 1 = sm (fun s => if fa1 s = -1 then 0 else 1) (s + 1) by rw [sm_s, if_neg c40]]; exact ih (s + 1) (by omega) (by omega))
              | (rw [show sm (fun s => if fa1 s = -1 then 0 else 1) s + 0 = sm (fun s => if fa1 s = -1 then 0 else 1) (s + 1) by rw [sm_s, if_pos c40]]; exact ih (s + 1) (by omega) (by omega))
          · refine V_iconst (pc' := 44) (v := nI 1) hX dX8_core_43 (by decide) rfl ?_
            refine V_goto (pc' := 48) hX dX8_core_44 rfl ?_
            refine V_iaddN (pc' := 49) hX dX8_core_48 rfl ?_
            refine V_istore_n (pc' := 50) (lv' := [_, _, _, _, _]) hX dX8_core_49 (Nat.le_of_ble_eq_true rfl) rfl rfl ?_
            refine V_iincN (pc' := 53) (j := 1) (lv' := [_, _, _, _, _]) hX dX8_core_50 rfl rfl rfl rfl ?_
            refine V_goto (pc' := 24) hX dX8_core_53 rfl ?_
            refine V.loc2 (lv' := [some _, some _, some _, some _, none]) ⟨rfl, rfl, rfl, rfl, trivial⟩ ?_
            first
              | (rw [show sm (fun s => if fa1 s = -1 then 0 else 1) s + 1 = sm (fun s => if fa1 s = -1 then 0 else 1) (s + 1) by rw [sm_s, if_neg c40]]; exact ih (s + 1) (by omega) (by omega))
              | (rw [show sm (fun s => if fa1 s = -1 then 0 else 1) s + 0 = sm (fun s => if fa1 s = -1 then 0 else 1) (s + 1) by rw [sm_s, if_pos c40]]; exact ih (s + 1) (by omega) (by omega))
    refine V.loc2 (lv' := [some _, some _, some _, some _, none]) ⟨rfl, rfl, rfl, rfl, trivial⟩ ?_
    exact lc (mk + 1) 0 (by omega) (by omega)
  · refine V_iconst (pc' := 14) (v := (-1)) hX dX8_core_13 (by decide) rfl ?_
    refine V_iret hX hR dX8_core_14 ?_
    exact ⟨rfl, f0, _, fa, fm, cm, be, fy, bs, cf, rfl, Or.inl ⟨c10, rfl, rfl, rfl⟩, hM⟩
