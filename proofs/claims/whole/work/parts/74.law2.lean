/-! the law: pair; the loop -/
theorem psAt.far2 {G : Gd} {h : AH} {z x : Nat} {mk : Nat} {sa : Nat → Option Nat} {L : Nat → List Nat} {F : Nat → Nat} {W : Nat → Nat} {fn : Nat → Nat} {fv : Nat → Nat} {fs : Nat} {tn : Nat → Nat} {tv : Nat → Nat} {ts : Nat} {kd : Nat} {p : Nat} {q : Nat} {bf : Nat → Nat} {len : Nat} {ta : Nat → Nat} {sp : Nat} {f1 : Nat → Nat} {f2 : Nat → Nat} {f3 : Nat → Nat} {ks : Nat} {ff : Nat → Nat} {fg : Nat} {co : Nat} {h' : AH} (hP : psAt G h z x mk sa L (fun _ => F) (fun _ => W) fn fv fs tn tv ts kd p q bf len ta sp f1 f2 f3 ks ff fg co) (hA : ∀ r q0, sa r = some q0 → x + 43 ≤ q0) (hf : fr (x + 42) (x + 43) h h') : psAt G h' z x mk sa L (fun _ => F) (fun _ => W) fn fv fs tn tv ts kd p q bf len ta sp f1 f2 f3 ks ff fg co := by
  obtain ⟨⟨hx, hsa⟩, ⟨hF, hFO⟩, ⟨hT, hTO⟩, ⟨hm, hM⟩, ⟨⟨nf, hp⟩, hPO⟩, ⟨s0, s1, s2, ho⟩, ⟨bg, hbg⟩, hta, ⟨⟨ab, bw, hk⟩, hks⟩, ⟨hn, hnO⟩, hS, hmk, hnone, hxz, hco⟩ := hP
  exact ⟨⟨(hf _ (by omega)).trans hx, (hf _ (by omega)).trans hsa⟩, ⟨hF.kept hf (by omega), hFO⟩, ⟨hT.kept hf (by omega), hTO⟩, ⟨(hf _ (by omega)).trans hm, hM⟩, ⟨⟨nf, hp.kept hf (by omega)⟩, hPO⟩, ⟨s0, s1, s2, (hf _ (by omega)).trans ho⟩, ⟨bg, (hf _ (by omega)).trans hbg⟩, (hf _ (by omega)).trans hta, ⟨⟨ab, bw, hk.kept hf (by omega)⟩, hks⟩, ⟨hn.kept hf (by omega), hnO⟩, ⟨fun r q0 hr => ⟨(hS.1 r q0 hr).1.kept hf (Or.inr (by have := hA r q0 hr; omega)), (hS.1 r q0 hr).2⟩, hS.2⟩, hmk, hnone, hxz, hco⟩
theorem psAt.up {G : Gd} {h : AH} {z x : Nat} {mk : Nat} {sa : Nat → Option Nat} {L : Nat → List Nat} {F : Nat → Nat} {W : Nat → Nat} {fn : Nat → Nat} {fv : Nat → Nat} {fs : Nat} {tn : Nat → Nat} {tv : Nat → Nat} {ts : Nat} {kd : Nat} {p : Nat} {q : Nat} {bf : Nat → Nat} {len : Nat} {ta : Nat → Nat} {sp : Nat} {f1 : Nat → Nat} {f2 : Nat → Nat} {f3 : Nat → Nat} {ks : Nat} {ff : Nat → Nat} {fg : Nat} {co : Nat} {z' : Nat} (hP : psAt G h z x mk sa L (fun _ => F) (fun _ => W) fn fv fs tn tv ts kd p q bf len ta sp f1 f2 f3 ks ff fg co) (hz : z ≤ z') : psAt G h z' x mk sa L (fun _ => F) (fun _ => W) fn fv fs tn tv ts kd p q bf len ta sp f1 f2 f3 ks ff fg co := by
  obtain ⟨a1, a2, a3, a4, a5, a6, a7, a8, a9, a10, hS, hmk, hnone, hxz, hco⟩ := hP
  exact ⟨a1, a2, a3, a4, a5, a6, a7, a8, a9, a10, ⟨fun r q0 hr => ⟨(hS.1 r q0 hr).1, (hS.1 r q0 hr).2.1, by have := (hS.1 r q0 hr).2.2; omega⟩, hS.2⟩, hmk, hnone, by omega, hco⟩
theorem lv_forget {b x it : Nat} {a5 a6 : Option Value} (i : Nat) (v : Value) (hv : ([some (.ref b), some (.ref x), some (.ref (x + 23)), some (.ref (x + 42)), some (.int (nI (6 * it))), none, none] : List (Option Value))[i]? = some (some v)) : ([some (.ref b), some (.ref x), some (.ref (x + 23)), some (.ref (x + 42)), some (.int (nI (6 * it))), a5, a6] : List (Option Value))[i]? = some (some v) := by
  match i, hv with
  | 0, hv => exact hv
  | 1, hv => exact hv
  | 2, hv => exact hv
  | 3, hv => exact hv
  | 4, hv => exact hv
  | 5, hv => cases hv
  | 6, hv => cases hv
  | n + 7, hv => cases hv
theorem law_c16 {X : CX} {b L : Nat} {xs : Nat → Int32} {it x : Nat} (C : CTX X b L xs it x) {z : Nat} {h : AH} (R : REL X.G h z x) (nx : ∀ (z : Nat) (h : AH), REL X.G h z x → V X (43 + 3 * (it + 1)) (21458 + 64 * (it + 1)) z h 935 [some (.ref b), some (.ref x), some (.ref (x + 23)), some (.ref (x + 42)), some (.int (nI (6 * it))), none, none] []) : V X (43 + 3 * it) (21458 + 64 * it) z h 693 [some (.ref b), some (.ref x), some (.ref (x + 23)), some (.ref (x + 42)), some (.int (nI (6 * it))), none, none] [] := by
  obtain ⟨mk, sa, L, M, F, W, fn, fv, fs, tn, tv, ts, kd, p, q, bf, len, ta, sp, f1, f2, f3, ks, ff, fg, co, th, fm, cm, be, dz, mn, st, un, uv, gn, gv, on, tw, bm, g1, g2, g3, sv, fa, fy, bs, cf, R⟩ := R
  have hX := C.1
  have hL1 := C.2.2.2.2.2.1
  have hL2 := C.2.2.2.2.2.2.1
  have hSS := C.2.2.2.2.2.2.2.1
  have hfl := C.2.2.2.2.2.2.2.2
  have hns : ∀ (q : Nat) (cell : Cell), X.s.heap[q]? = some cell → cell.vm.isStatics = true → ¬ X.A q := fun q cell h1 _ h2 => by
    rw [C.2.2.1] at h2
    have := (Array.getElem?_eq_some_iff.mp h1).1
    exact absurd h2 (Nat.not_le.mpr this)
  obtain ⟨hP, hM, ⟨fo, hO⟩, ⟨hA, hAz⟩, hI, ⟨hFe, hF60⟩, ⟨hWe, hWt⟩, hB, hK, ⟨hT, hsp⟩, ⟨hcm, hcm20, hcf⟩, hN⟩ := R
  have hks : ks ≤ 1770 := hP.2.2.2.2.2.2.2.2.1.2
  refine V_aload_n (pc' := 694) hX dL_law_693 rfl rfl ?_
  refine V_aload_n (pc' := 695) hX dL_law_694 rfl rfl ?_
  refine V_iload (pc' := 697) hX dL_law_695 rfl rfl ?_
  refine V_iconst (v := nI 1) (pc' := 698) hX dL_law_697 rfl rfl ?_
  refine V_iaddN (pc' := 699) hX dL_law_698 rfl ?_
  refine V_scr (j := 6 * it + 1) (pc' := 700) C (by omega) hX dL_law_699 rfl ?_
  refine V_aload_n (pc' := 701) hX dL_law_700 rfl rfl ?_
  refine V_iload (pc' := 703) hX dL_law_701 rfl rfl ?_
  refine V_iconst (v := nI 2) (pc' := 704) hX dL_law_703 rfl rfl ?_
  refine V_iaddN (pc' := 705) hX dL_law_704 rfl ?_
  refine V_scr (j := 6 * it + 2) (pc' := 706) C (by omega) hX dL_law_705 rfl ?_
  refine V_aload_n (pc' := 707) hX dL_law_706 rfl rfl ?_
  refine V_callP (pc' := 710) (k' := 43 + 3 * it + 1) (n' := 21458 + 64 * it + 6) (As := [.ref x, .int (xs (6 * it + 1)), .int (xs (6 * it + 2)), .ref (x + 42)]) (rest := []) hX dL_law_707 (c_L_pair (xs (6 * it + 1)) (xs (6 * it + 2)) hfl hO hP) rfl hSS C.2.2.2.1 hns rfl (Nat.le_of_ble_eq_true rfl) (by omega) rfl rfl (by omega) rfl (by omega) rfl ?_
  rintro v0 z1 h1 (⟨j, v, f', e1, hj, e2, hv2, rfl, rfl, rfl, hf'⟩ | ⟨hno, rfl, rfl, rfl⟩)
  · have hfr : fr (x + 42) (x + 43) h (hup h (x + 42) (oJ X.G 1 f')) := fr.up fr.rf (by omega) (by omega)
    have hP1 := hP.far2 hA hfr
    have hM1 := hM.kept hfr (Or.inl (by omega))
    have hO1 : (hup h (x + 42) (oJ X.G 1 f')) (x + 42) = some (oJ X.G 1 f') := hup_s
    generalize hup h (x + 42) (oJ X.G 1 f') = h1 at hP1 hM1 hO1 ⊢
    refine V_istore (lv' := [some (.ref b), some (.ref x), some (.ref (x + 23)), some (.ref (x + 42)), some (.int (nI (6 * it))), some (.int (nI 0)), none]) (pc' := 712) hX dL_law_710 (Nat.le_of_ble_eq_true rfl) rfl rfl ?_
    refine V_aload_n (pc' := 713) hX dL_law_712 rfl rfl ?_
    refine V_aload_n (pc' := 714) hX dL_law_713 rfl rfl ?_
    refine V_iload (pc' := 716) hX dL_law_714 rfl rfl ?_
    refine V_iconst (v := nI 1) (pc' := 717) hX dL_law_716 rfl rfl ?_
    refine V_iaddN (pc' := 718) hX dL_law_717 rfl ?_
    refine V_scr (j := 6 * it + 1) (pc' := 719) C (by omega) hX dL_law_718 rfl ?_
    refine V_aload_n (pc' := 720) hX dL_law_719 rfl rfl ?_
    refine V_iload (pc' := 722) hX dL_law_720 rfl rfl ?_
    refine V_iconst (v := nI 2) (pc' := 723) hX dL_law_722 rfl rfl ?_
    refine V_iaddN (pc' := 724) hX dL_law_723 rfl ?_
    refine V_scr (j := 6 * it + 2) (pc' := 725) C (by omega) hX dL_law_724 rfl ?_
    refine V_callV (nA := 2) (pc' := 728) (k' := 43 + 3 * it + 1) (n' := 21458 + 64 * it + 6) (As := [.int (xs (6 * it + 1)), .int (xs (6 * it + 2))]) (rest := []) hX dL_law_725 (c_Md_pair (xs (6 * it + 1)) (xs (6 * it + 2)) hks hM1) hM1.1 rfl wM_L_95 wI_X8_pair wL_X8_pair wN_X8 wC_X8_pair rfl hy_X8_pair rfl (Nat.le_of_ble_eq_true rfl) (by decide) (by omega) rfl rfl (by omega) rfl (by omega) rfl ?_
    rintro _ z2 h2 ⟨rfl, hf2, hh2⟩
    have hP2 := hP1.far hA hf2
    have hO2 := (hf2 (x + 42) (by omega)).trans hO1
    rcases hh2 with ⟨hno, -⟩ | ⟨j2, v2, e3, hj2, e4, hv3, rfl, hM2⟩
    · exfalso
      apply hno
      rw [e1, e2, nI_toInt (by omega), nI_toInt (by omega)]
      omega
    · refine V_istore (lv' := [some (.ref b), some (.ref x), some (.ref (x + 23)), some (.ref (x + 42)), some (.int (nI (6 * it))), some (.int (nI 0)), some (.int (nI (if v2 = 0 then g1 j2 else if v2 = 1 then g2 j2 else g3 j2)))]) (pc' := 730) hX dL_law_728 (Nat.le_of_ble_eq_true rfl) rfl rfl ?_
      refine V_aload_n (pc' := 731) hX dL_law_730 rfl rfl ?_
      refine V_callV (nA := 0) (pc' := 734) (k' := 43 + 3 * it + 1) (n' := 21458 + 64 * it + 6) (As := []) (rest := []) hX dL_law_731 (c_Md_thrown hM2) hM2.1 rfl wM_L_96 wI_X8_thrown wL_X8_thrown wN_X8 wC_X8_thrown rfl hy_X8_thrown rfl (Nat.le_of_ble_eq_true rfl) (by decide) (by omega) rfl rfl (by omega) rfl (by omega) rfl ?_
      rintro _ z3 h3 ⟨rfl, rfl, rfl⟩
      refine V_iload (pc' := 736) hX dL_law_734 rfl rfl ?_
      refine V_icmp_eq (pt := 741) (pc' := 739) hX dL_law_736 rfl rfl (fun _ => ?_) (fun e => absurd rfl e)
      refine V_iload (pc' := 743) hX dL_law_741 rfl rfl ?_
      refine V_if_ne (pt := 758) (pc' := 746) hX dL_law_743 rfl rfl (fun e => absurd rfl e) (fun _ => ?_)
      refine V_aload_n (pc' := 747) hX dL_law_746 rfl rfl ?_
      refine V_iconst (v := nI 0) (pc' := 748) hX dL_law_747 rfl rfl ?_
      refine V_laldN (N := 1) (i := 0) (pc' := 749) hX dL_law_748 hO2 (by omega) (by omega) rfl rfl ?_
      refine V_iload (pc' := 751) hX dL_law_749 rfl rfl ?_
      refine V_i2l (pc' := 752) hX dL_law_751 rfl ?_
      have ej : j2 = j := nI_i2 (by omega) (by omega) (e3.symm.trans e1)
      have ev : v2 = v := nI_i2 (by omega) (by omega) (e4.symm.trans e2)
      have hval : f' 0 = (nI (if v2 = 0 then g1 j2 else if v2 = 1 then g2 j2 else g3 j2)).toInt64 := by
        rw [hf', ej, ev, (hK j hj).1, (hK j hj).2.1, (hK j hj).2.2]
      refine V_lcmp_eq (p1 := 753) (pt := 758) (pc' := 756) hX dL_law_752 rfl dL_law_753 rfl rfl (fun _ => ?_) (fun e => absurd hval e)
      have R2 := RLW.ex (M := M) ⟨hP2, hM2, ⟨_, hO2⟩, ⟨hA, by omega⟩, hI, ⟨hFe, hF60⟩, ⟨hWe, hWt⟩, hB, hK, ⟨hT, hsp⟩, ⟨hcm, hcm20, hcf⟩, hN⟩
      refine V_goto (pc' := 935) hX dL_law_758 rfl ?_
      refine V.loc (lv' := [some (.ref b), some (.ref x), some (.ref (x + 23)), some (.ref (x + 42)), some (.int (nI (6 * it))), none, none]) rfl lv_forget ?_
      exact V.widen (by omega) (by omega) (nx _ _ R2)
  · have hP1 := hP.up (z' := z + 1) (by omega)
    have hM1 := hM
    have hO1 := hO
    refine V_istore (lv' := [some (.ref b), some (.ref x), some (.ref (x + 23)), some (.ref (x + 42)), some (.int (nI (6 * it))), some (.int (nI 1)), none]) (pc' := 712) hX dL_law_710 (Nat.le_of_ble_eq_true rfl) rfl rfl ?_
    refine V_aload_n (pc' := 713) hX dL_law_712 rfl rfl ?_
    refine V_aload_n (pc' := 714) hX dL_law_713 rfl rfl ?_
    refine V_iload (pc' := 716) hX dL_law_714 rfl rfl ?_
    refine V_iconst (v := nI 1) (pc' := 717) hX dL_law_716 rfl rfl ?_
    refine V_iaddN (pc' := 718) hX dL_law_717 rfl ?_
    refine V_scr (j := 6 * it + 1) (pc' := 719) C (by omega) hX dL_law_718 rfl ?_
    refine V_aload_n (pc' := 720) hX dL_law_719 rfl rfl ?_
    refine V_iload (pc' := 722) hX dL_law_720 rfl rfl ?_
    refine V_iconst (v := nI 2) (pc' := 723) hX dL_law_722 rfl rfl ?_
    refine V_iaddN (pc' := 724) hX dL_law_723 rfl ?_
    refine V_scr (j := 6 * it + 2) (pc' := 725) C (by omega) hX dL_law_724 rfl ?_
    refine V_callV (nA := 2) (pc' := 728) (k' := 43 + 3 * it + 1) (n' := 21458 + 64 * it + 6) (As := [.int (xs (6 * it + 1)), .int (xs (6 * it + 2))]) (rest := []) hX dL_law_725 (c_Md_pair (xs (6 * it + 1)) (xs (6 * it + 2)) hks hM1) hM1.1 rfl wM_L_95 wI_X8_pair wL_X8_pair wN_X8 wC_X8_pair rfl hy_X8_pair rfl (Nat.le_of_ble_eq_true rfl) (by decide) (by omega) rfl rfl (by omega) rfl (by omega) rfl ?_
    rintro _ z2 h2 ⟨rfl, hf2, hh2⟩
    have hP2 := hP1.far hA hf2
    have hO2 := (hf2 (x + 42) (by omega)).trans hO1
    rcases hh2 with ⟨-, rfl, hM2⟩ | ⟨j2, v2, e3, hj2, e4, hv3, -⟩
    · refine V_istore (lv' := [some (.ref b), some (.ref x), some (.ref (x + 23)), some (.ref (x + 42)), some (.int (nI (6 * it))), some (.int (nI 1)), some (.int (nI 0))]) (pc' := 730) hX dL_law_728 (Nat.le_of_ble_eq_true rfl) rfl rfl ?_
      refine V_aload_n (pc' := 731) hX dL_law_730 rfl rfl ?_
      refine V_callV (nA := 0) (pc' := 734) (k' := 43 + 3 * it + 1) (n' := 21458 + 64 * it + 6) (As := []) (rest := []) hX dL_law_731 (c_Md_thrown hM2) hM2.1 rfl wM_L_96 wI_X8_thrown wL_X8_thrown wN_X8 wC_X8_thrown rfl hy_X8_thrown rfl (Nat.le_of_ble_eq_true rfl) (by decide) (by omega) rfl rfl (by omega) rfl (by omega) rfl ?_
      rintro _ z3 h3 ⟨rfl, rfl, rfl⟩
      refine V_iload (pc' := 736) hX dL_law_734 rfl rfl ?_
      refine V_icmp_eq (pt := 741) (pc' := 739) hX dL_law_736 rfl rfl (fun _ => ?_) (fun e => absurd rfl e)
      refine V_iload (pc' := 743) hX dL_law_741 rfl rfl ?_
      refine V_if_ne (pt := 758) (pc' := 746) hX dL_law_743 rfl rfl (fun _ => ?_) (fun e => absurd e (by decide))
      have R2 := RLW.ex (M := M) ⟨hP2, hM2, ⟨_, hO2⟩, ⟨hA, by omega⟩, hI, ⟨hFe, hF60⟩, ⟨hWe, hWt⟩, hB, hK, ⟨hT, hsp⟩, ⟨hcm, hcm20, hcf⟩, hN⟩
      refine V_goto (pc' := 935) hX dL_law_758 rfl ?_
      refine V.loc (lv' := [some (.ref b), some (.ref x), some (.ref (x + 23)), some (.ref (x + 42)), some (.int (nI (6 * it))), none, none]) rfl lv_forget ?_
      exact V.widen (by omega) (by omega) (nx _ _ R2)
    · exfalso
      apply hno
      rw [e3, e4, nI_toInt (by omega), nI_toInt (by omega)]
      omega
