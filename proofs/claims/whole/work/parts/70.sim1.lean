/-! class and model, call by call -/
theorem two_no {sa : Nat → Option Nat} {r s : Int32} : (sOf sa r = none ∨ sOf sa s = none ∨ r = s) ↔ (avI (al sa) r && (avI (al sa) s && decide (r ≠ s))) = false := by
  rw [sOf_av, sOf_av]
  by_cases h : r = s
  · simp [h]
  · rw [decide_eq_true (show r ≠ s from h), Bool.and_true]
    cases avI (al sa) r <;> cases avI (al sa) s <;> simp [h]
theorem two_yes {sa : Nat → Option Nat} {i j : Nat} (hi : i < 60) (hj : j < 60) (h1 : al sa i = true) (h2 : al sa j = true) (hne : i ≠ j) : (avI (al sa) (nI i) && (avI (al sa) (nI j) && decide (nI i ≠ nI j))) = true := by
  rw [avI_nI (by omega), avI_nI (by omega), h1, h2, decide_eq_true (show nI i ≠ nI j from fun e => hne (nI_i2 (by omega) (by omega) e))]
  rfl
theorem one_no {sa : Nat → Option Nat} {k : Nat} (hk : k < 60) (h1 : al sa k = true) (h : avI (al sa) (nI k) = false) : False := by
  rw [avI_nI (by omega), h1] at h
  cases h
theorem net_f {G : Gd} {h : AH} {z x : Nat} {mk : Nat} {sa : Nat → Option Nat} {L : Nat → List Nat} {F : Nat → Nat} {W : Nat → Nat} {fn : Nat → Nat} {fv : Nat → Nat} {fs : Nat} {tn : Nat → Nat} {tv : Nat → Nat} {ts : Nat} {kd : Nat} {p : Nat} {q : Nat} {bf : Nat → Nat} {len : Nat} {ta : Nat → Nat} {sp : Nat} {f1 : Nat → Nat} {f2 : Nat → Nat} {f3 : Nat → Nat} {ks : Nat} {ff : Nat → Nat} {fg : Nat} {co : Nat} (hP : psAt G h z x mk sa L (fun _ => F) (fun _ => W) fn fv fs tn tv ts kd p q bf len ta sp f1 f2 f3 ks ff fg co) (hav : ∀ r, al sa r = true → r < mk) (hfr : nFr kd p q W sa L ff) : (∀ r s, (ff r).testBit s = pE kd p q W L (al sa) r s) ∧ (∀ r s, pE kd p q W L (al sa) r s = pE kd p q W L (al sa) s r) ∧ (∀ r s, pE kd p q W L (al sa) r s = true → r < mk) ∧ ∀ j, j < 60 → ff j < 2 ^ 60 := by
  have hnd : ∀ r, (sa r).isSome = true → (L r).Nodup := fun r hr => (ps_sort hP hr).2.1
  have hff : ∀ r s, (ff r).testBit s = pE kd p q W L (al sa) r s := fun r s => by
    rw [hfr r s]
    unfold pE arB al
    cases (sa r).isSome <;> cases (sa s).isSome <;> simp
  have hsy : ∀ r s, pE kd p q W L (al sa) r s = pE kd p q W L (al sa) s r := fun r s => by
    rw [← hff, ← hff, hfr, hfr, arB_symm hnd r s]
    congr 1
    exact decide_eq_decide.mpr ⟨Ne.symm, Ne.symm⟩
  refine ⟨hff, hsy, fun r s h => hav r (pE_av h).1, ?_⟩
  obtain ⟨⟨hx, hsa⟩, ⟨hF, hFO⟩, ⟨hT, hTO⟩, ⟨hm, hM⟩, ⟨⟨nf, hp⟩, hPO⟩, ⟨s0, s1, s2, ho⟩, ⟨bg, hbg⟩, hta, ⟨⟨ab, bw, hk⟩, hks⟩, ⟨hn, hnO⟩, hS, hmk, hnone, hxz, hco⟩ := hP
  exact hnO.1
theorem sim_drop {G : Gd} {h : AH} {z x : Nat} {mk : Nat} {sa : Nat → Option Nat} {L : Nat → List Nat} {M : Nat → List Nat} {F : Nat → Nat} {W : Nat → Nat} {fn : Nat → Nat} {fv : Nat → Nat} {fs : Nat} {tn : Nat → Nat} {tv : Nat → Nat} {ts : Nat} {kd : Nat} {p : Nat} {q : Nat} {bf : Nat → Nat} {len : Nat} {ta : Nat → Nat} {sp : Nat} {f1 : Nat → Nat} {f2 : Nat → Nat} {f3 : Nat → Nat} {ks : Nat} {ff : Nat → Nat} {fg : Nat} {co : Nat} {th : Int32} {fm : Nat} {cm : Nat} {be : Nat} {dz : Nat → Bool} {mn : Nat → Nat} {st : Nat → Nat} {un : Nat → Nat} {uv : Nat → Nat} {gn : Nat → Nat} {gv : Nat → Nat} {on : Nat → Nat} {tw : Nat → Nat} {bm : Nat → Nat} {g1 : Nat → Nat} {g2 : Nat → Nat} {g3 : Nat → Nat} {sv : Nat → Nat} {fa : Nat → Int32} {fy : Nat → Nat} {bs : Nat → Nat} {cf : Nat → Nat} (R : RLW G h z x mk sa L M F W fn fv fs tn tv ts kd p q bf len ta sp f1 f2 f3 ks ff fg co th fm cm be dz mn st un uv gn gv on tw bm g1 g2 g3 sv fa fy bs cf) (r : Int32) : Ct G yX7_drop cX7_drop 2 (some .boolean) 1 0 0 [.ref x, .int r] z h (fun a z1 h1 => ∃ (wr : Int32) (fs0 : List Value), a = some (.int wr) ∧ h1 (x + 23) = some (oO 8 fs0) ∧ Ct G yX8_drop cX8_drop 2 (some .boolean) 2 0 0 [.ref (x + 23), .int r] z1 h1 (fun b z2 h2 => b = some (.int wr) ∧ z2 ≤ z + 0 ∧ REL G h2 z2 x)) := by
  obtain ⟨hTv, hW1⟩ := R.wb
  obtain ⟨hP, hM, ⟨fo, hO⟩, ⟨hA, hAz⟩, hI, ⟨hFe, hF60⟩, ⟨hWe, hWt⟩, hB, hK, ⟨hT, hsp⟩, ⟨hcm, hcm20, hcf⟩, hN⟩ := R
  have hmk60 := hI.1.1
  have hav := hI.1.2.1
  have hnd : ∀ r, al sa r = true → (L r).Nodup := fun r hr => (ps_sort hP hr).2.1
  refine Ct.mono (c_PS_drop r hP) ?_
  rintro a z1 h1 ⟨rfl, hf, hh⟩
  have hm := hf.mid hA hAz
  have hM1 := hM.at hm
  have hO1 := (hm _ (by omega) (by omega)).trans hO
  rcases hh with ⟨e0, rfl, rfl⟩ | ⟨k, hk, rfl, hs, rfl, hP1⟩
  · refine ⟨_, _, rfl, hM1.1, Ct.mono (c_Md_drop r hI hM1) ?_⟩
    rintro b z2 h2 ⟨rfl, hf2, hh2⟩
    have hP1 := hP
    have hP2 := hP1.far hA hf2
    have hO2 := (hf2 _ (by omega)).trans hO1
    rcases hh2 with ⟨-, rfl, hM2⟩ | ⟨k, rfl, hs, -⟩
    · exact ⟨rfl, Nat.le_refl _, RLW.ex (M := M) ⟨hP2, hM2, ⟨fo, hO2⟩, ⟨hA, hAz⟩, hI, ⟨hFe, hF60⟩, ⟨hWe, hWt⟩, hB, hK, ⟨hT, hsp⟩, ⟨hcm, hcm20, hcf⟩, hN⟩⟩
    · exact (one_no (by have := hav k hs; omega) hs (sOf_av.mp e0)).elim
  · refine ⟨_, _, rfl, hM1.1, Ct.mono (c_Md_drop (nI k) hI hM1) ?_⟩
    rintro b z2 h2 ⟨rfl, hf2, hh2⟩
    have hA9 : ∀ r q0, va_up sa k none r = some q0 → x + 43 ≤ q0 := fun r q0 hr => by
      by_cases e : r = k
      · rw [e, vu_at] at hr; cases hr
      · rw [vu_ne _ _ e] at hr; exact hA r q0 hr
    have hP2 := hP1.far hA9 hf2
    have hO2 := (hf2 _ (by omega)).trans hO1
    rcases hh2 with ⟨e0, -⟩ | ⟨k2, e2, hs2, rfl, hM2⟩
    · exact (one_no (by omega) hs e0).elim
    · have : k2 = k := nI_i2 (by have := hav k2 hs2; omega) (by omega) e2.symm
      subst this
      have hal : ∀ r, al (va_up sa k2 none) r = if r = k2 then false else al sa r := fun r => by
        unfold al
        by_cases e : r = k2
        · rw [e, vu_at, if_pos rfl]; rfl
        · rw [vu_ne _ _ e, if_neg e]
      refine ⟨rfl, Nat.le_refl _, RLW.ex (M := M) ⟨hP2, hM2, ⟨fo, hO2⟩, ⟨hA9, hAz⟩, ?_, ⟨hFe, hF60⟩, ⟨hWe, hWt⟩, hB, hK, ⟨hT, hsp⟩, ⟨hcm, hcm20, hcf⟩, hN.one (fun r e => vu_ne _ _ e) (fun r _ => rfl)⟩⟩
      obtain ⟨⟨i1, i2, i3⟩, i4, i5, i6, i7, i8, i9⟩ := hI
      refine ⟨⟨i1, fun r hr => ?_, fun r hr => ?_⟩, i4, i5, i6, fun r hr => ?_, i8, i9⟩
      · rw [hal] at hr
        by_cases e : r = k2
        · rw [if_pos e] at hr; cases hr
        · rw [if_neg e] at hr; exact i2 r hr
      · rw [hal]
        by_cases e : r = k2
        · rw [e, vu_at, if_pos rfl, decide_eq_true hk]; rfl
        · rw [vu_ne _ _ e, if_neg e]; exact i3 r hr
      · rw [hal] at hr
        by_cases e : r = k2
        · rw [if_pos e] at hr; cases hr
        · rw [if_neg e] at hr; exact i7 r hr
theorem sim_record {G : Gd} {h : AH} {z x : Nat} {mk : Nat} {sa : Nat → Option Nat} {L : Nat → List Nat} {M : Nat → List Nat} {F : Nat → Nat} {W : Nat → Nat} {fn : Nat → Nat} {fv : Nat → Nat} {fs : Nat} {tn : Nat → Nat} {tv : Nat → Nat} {ts : Nat} {kd : Nat} {p : Nat} {q : Nat} {bf : Nat → Nat} {len : Nat} {ta : Nat → Nat} {sp : Nat} {f1 : Nat → Nat} {f2 : Nat → Nat} {f3 : Nat → Nat} {ks : Nat} {ff : Nat → Nat} {fg : Nat} {co : Nat} {th : Int32} {fm : Nat} {cm : Nat} {be : Nat} {dz : Nat → Bool} {mn : Nat → Nat} {st : Nat → Nat} {un : Nat → Nat} {uv : Nat → Nat} {gn : Nat → Nat} {gv : Nat → Nat} {on : Nat → Nat} {tw : Nat → Nat} {bm : Nat → Nat} {g1 : Nat → Nat} {g2 : Nat → Nat} {g3 : Nat → Nat} {sv : Nat → Nat} {fa : Nat → Int32} {fy : Nat → Nat} {bs : Nat → Nat} {cf : Nat → Nat} (R : RLW G h z x mk sa L M F W fn fv fs tn tv ts kd p q bf len ta sp f1 f2 f3 ks ff fg co th fm cm be dz mn st un uv gn gv on tw bm g1 g2 g3 sv fa fy bs cf) : Ct G yX7_record cX7_record 1 (some .int) 2 3 64 [.ref x] z h (fun a z1 h1 => ∃ (wr : Int32) (fs0 : List Value), a = some (.int wr) ∧ h1 (x + 23) = some (oO 8 fs0) ∧ Ct G yX8_record cX8_record 1 (some .int) 0 0 0 [.ref (x + 23)] z1 h1 (fun b z2 h2 => b = some (.int wr) ∧ z2 ≤ z + 3 ∧ REL G h2 z2 x)) := by
  obtain ⟨hTv, hW1⟩ := R.wb
  obtain ⟨hP, hM, ⟨fo, hO⟩, ⟨hA, hAz⟩, hI, ⟨hFe, hF60⟩, ⟨hWe, hWt⟩, hB, hK, ⟨hT, hsp⟩, ⟨hcm, hcm20, hcf⟩, hN⟩ := R
  have hmk60 := hI.1.1
  have hav := hI.1.2.1
  have hnd : ∀ r, al sa r = true → (L r).Nodup := fun r hr => (ps_sort hP hr).2.1
  refine Ct.mono (c_PS_record hP) ?_
  rintro a z1 h1 ⟨hf, hh⟩
  have hm := hf.mid hA hAz
  have hM1 := hM.at hm
  have hO1 := (hm _ (by omega) (by omega)).trans hO
  rcases hh with ⟨e0, rfl, rfl, rfl⟩ | ⟨e0, rfl, rfl, hP1⟩
  · refine ⟨_, _, rfl, hM1.1, Ct.mono (c_Md_record hI hM1) ?_⟩
    rintro b z2 h2 ⟨rfl, hf2, hh2⟩
    have hP1 := hP
    have hP2 := hP1.far hA hf2
    have hO2 := (hf2 _ (by omega)).trans hO1
    rcases hh2 with ⟨-, rfl, hM2⟩ | ⟨e1, -⟩
    · exact ⟨rfl, by omega, RLW.ex (M := M) ⟨hP2, hM2, ⟨fo, hO2⟩, ⟨hA, hAz⟩, hI, ⟨hFe, hF60⟩, ⟨hWe, hWt⟩, hB, hK, ⟨hT, hsp⟩, ⟨hcm, hcm20, hcf⟩, hN⟩⟩
    · omega
  · refine ⟨_, _, rfl, hM1.1, Ct.mono (c_Md_record hI hM1) ?_⟩
    rintro b z2 h2 ⟨rfl, hf2, hh2⟩
    have hA9 : ∀ r q0, va_up sa mk (some z) r = some q0 → x + 43 ≤ q0 := fun r q0 hr => by
      by_cases e : r = mk
      · rw [e, vu_at] at hr; cases hr; exact hAz
      · rw [vu_ne _ _ e] at hr; exact hA r q0 hr
    have hP2 := hP1.far hA9 hf2
    have hO2 := (hf2 _ (by omega)).trans hO1
    rcases hh2 with ⟨e1, -⟩ | ⟨e1, rfl, hM2⟩
    · omega
    · have hal : ∀ r, al (va_up sa mk (some z)) r = if r = mk then true else al sa r := fun r => by
        unfold al
        by_cases e : r = mk
        · rw [e, vu_at, if_pos rfl]; rfl
        · rw [vu_ne _ _ e, if_neg e]
      refine ⟨rfl, by omega, RLW.ex (M := M) ⟨hP2, hM2, ⟨fo, hO2⟩, ⟨hA9, by omega⟩, ?_, ⟨hFe, hF60⟩, ⟨hWe, hWt⟩, hB, hK, ⟨hT, hsp⟩, ⟨hcm, hcm20, hcf⟩, hN.rec z⟩⟩
      obtain ⟨⟨i1, i2, i3⟩, i4, i5, i6, i7, i8, i9⟩ := hI
      refine ⟨⟨by omega, fun r hr => ?_, fun r hr => ?_⟩, i4, i5, i6, fun r hr => ?_, i8, fun r hr => i9 r (by omega)⟩
      · rw [hal] at hr
        by_cases e : r = mk
        · omega
        · rw [if_neg e] at hr; have := i2 r hr; omega
      · rw [hal, i3 r hr]
        by_cases e : r = mk
        · rw [e, if_pos rfl, decide_eq_false (by omega)]; simp
        · rw [if_neg e]
          congr 1
          exact decide_eq_decide.mpr ⟨by omega, by omega⟩
      · rw [hal] at hr
        by_cases e : r = mk
        · rw [e, vu_at, i9 mk (Nat.le_refl _)]
          exact ⟨List.Perm.refl _, fun i j _ hj => by simp at hj⟩
        · rw [if_neg e] at hr; rw [vu_ne _ _ e]; exact i7 r hr
theorem sim_feed {G : Gd} {h : AH} {z x : Nat} {mk : Nat} {sa : Nat → Option Nat} {L : Nat → List Nat} {M : Nat → List Nat} {F : Nat → Nat} {W : Nat → Nat} {fn : Nat → Nat} {fv : Nat → Nat} {fs : Nat} {tn : Nat → Nat} {tv : Nat → Nat} {ts : Nat} {kd : Nat} {p : Nat} {q : Nat} {bf : Nat → Nat} {len : Nat} {ta : Nat → Nat} {sp : Nat} {f1 : Nat → Nat} {f2 : Nat → Nat} {f3 : Nat → Nat} {ks : Nat} {ff : Nat → Nat} {fg : Nat} {co : Nat} {th : Int32} {fm : Nat} {cm : Nat} {be : Nat} {dz : Nat → Bool} {mn : Nat → Nat} {st : Nat → Nat} {un : Nat → Nat} {uv : Nat → Nat} {gn : Nat → Nat} {gv : Nat → Nat} {on : Nat → Nat} {tw : Nat → Nat} {bm : Nat → Nat} {g1 : Nat → Nat} {g2 : Nat → Nat} {g3 : Nat → Nat} {sv : Nat → Nat} {fa : Nat → Int32} {fy : Nat → Nat} {bs : Nat → Nat} {cf : Nat → Nat} (R : RLW G h z x mk sa L M F W fn fv fs tn tv ts kd p q bf len ta sp f1 f2 f3 ks ff fg co th fm cm be dz mn st un uv gn gv on tw bm g1 g2 g3 sv fa fy bs cf) (a0 b0 c0 d0 e0 : Int32) : Ct G yX7_feed cX7_feed 6 (some .int) 1 0 0 [.ref x, .int a0, .int b0, .int c0, .int d0, .int e0] z h (fun a z1 h1 => ∃ (wr : Int32) (fs0 : List Value), a = some (.int wr) ∧ h1 (x + 23) = some (oO 8 fs0) ∧ Ct G yX8_feed cX8_feed 6 (some .int) 1 0 0 [.ref (x + 23), .int a0, .int b0, .int c0, .int d0, .int e0] z1 h1 (fun b z2 h2 => b = some (.int wr) ∧ z2 ≤ z + 0 ∧ REL G h2 z2 x)) := by
  obtain ⟨hTv, hW1⟩ := R.wb
  obtain ⟨hP, hM, ⟨fo, hO⟩, ⟨hA, hAz⟩, hI, ⟨hFe, hF60⟩, ⟨hWe, hWt⟩, hB, hK, ⟨hT, hsp⟩, ⟨hcm, hcm20, hcf⟩, hN⟩ := R
  have hmk60 := hI.1.1
  have hav := hI.1.2.1
  have hnd : ∀ r, al sa r = true → (L r).Nodup := fun r hr => (ps_sort hP hr).2.1
  refine Ct.mono (c_PS_feed a0 b0 c0 d0 e0 hP) ?_
  rintro a z1 h1 ⟨rfl, hf, hh⟩
  have hm := hf.mid hA hAz
  have hM1 := hM.at hm
  have hO1 := (hm _ (by omega) (by omega)).trans hO
  have hl80 : len ≤ 80 := hP.2.2.2.2.1.2.1
  rcases hh with ⟨f0, rfl, rfl⟩ | ⟨f0, rfl, bf', f4, f5, hP1⟩
  · refine ⟨_, _, rfl, hM1.1, Ct.mono (c_Md_feed a0 b0 c0 d0 e0 hl80 hM1) ?_⟩
    rintro b z2 h2 ⟨rfl, hf2, hh2⟩
    have hP1 := hP
    have hP2 := hP1.far hA hf2
    have hO2 := (hf2 _ (by omega)).trans hO1
    rcases hh2 with ⟨-, rfl, hM2⟩ | ⟨f1, -⟩
    · exact ⟨rfl, Nat.le_refl _, RLW.ex (M := M) ⟨hP2, hM2, ⟨fo, hO2⟩, ⟨hA, hAz⟩, hI, ⟨hFe, hF60⟩, ⟨hWe, hWt⟩, hB, hK, ⟨hT, hsp⟩, ⟨hcm, hcm20, hcf⟩, hN⟩⟩
    · omega
  · refine ⟨_, _, rfl, hM1.1, Ct.mono (c_Md_feed a0 b0 c0 d0 e0 hl80 hM1) ?_⟩
    rintro b z2 h2 ⟨rfl, hf2, hh2⟩
    have hP2 := hP1.far hA hf2
    have hO2 := (hf2 _ (by omega)).trans hO1
    rcases hh2 with ⟨f1, -⟩ | ⟨f1, rfl, bf2, f6, f7, hM2⟩
    · omega
    · refine ⟨rfl, Nat.le_refl _, RLW.ex (M := M) ⟨hP2, hM2, ⟨fo, hO2⟩, ⟨hA, hAz⟩, hI, ⟨hFe, hF60⟩, ⟨hWe, hWt⟩, fun j hj => ?_, hK, ⟨hT, hsp⟩, ⟨hcm, hcm20, hcf⟩, hN⟩⟩
      by_cases hj1 : j < len
      · rw [f6 j hj1, f4 j hj1]; exact hB j hj1
      · have key : ∀ i, i < 4 → bf2 (len + i) = bf' (len + i) ∧ bf2 (len + 4 + i) = bf' (len + 4 + i) ∧ bf2 (len + 8 + i) = bf' (len + 8 + i) ∧ bf2 (len + 12 + i) = bf' (len + 12 + i) ∧ bf2 (len + 16 + i) = bf' (len + 16 + i) := fun i hi => by
          obtain ⟨k1, k2, k3, k4, k5⟩ := f5 i hi
          obtain ⟨l1, l2, l3, l4, l5⟩ := f7 i hi
          exact ⟨l1.trans k1.symm, l2.trans k2.symm, l3.trans k3.symm, l4.trans k4.symm, l5.trans k5.symm⟩
        obtain ⟨t, i, ht, hi, rfl⟩ : ∃ t i, t < 5 ∧ i < 4 ∧ j = len + 4 * t + i := ⟨(j - len) / 4, (j - len) % 4, by omega, by omega, by omega⟩
        have k := key i hi
        rcases (show t = 0 ∨ t = 1 ∨ t = 2 ∨ t = 3 ∨ t = 4 by omega) with rfl | rfl | rfl | rfl | rfl
        · exact k.1
        · exact k.2.1
        · exact k.2.2.1
        · exact k.2.2.2.1
        · exact k.2.2.2.2
theorem sim_end {G : Gd} {h : AH} {z x : Nat} {mk : Nat} {sa : Nat → Option Nat} {L : Nat → List Nat} {M : Nat → List Nat} {F : Nat → Nat} {W : Nat → Nat} {fn : Nat → Nat} {fv : Nat → Nat} {fs : Nat} {tn : Nat → Nat} {tv : Nat → Nat} {ts : Nat} {kd : Nat} {p : Nat} {q : Nat} {bf : Nat → Nat} {len : Nat} {ta : Nat → Nat} {sp : Nat} {f1 : Nat → Nat} {f2 : Nat → Nat} {f3 : Nat → Nat} {ks : Nat} {ff : Nat → Nat} {fg : Nat} {co : Nat} {th : Int32} {fm : Nat} {cm : Nat} {be : Nat} {dz : Nat → Bool} {mn : Nat → Nat} {st : Nat → Nat} {un : Nat → Nat} {uv : Nat → Nat} {gn : Nat → Nat} {gv : Nat → Nat} {on : Nat → Nat} {tw : Nat → Nat} {bm : Nat → Nat} {g1 : Nat → Nat} {g2 : Nat → Nat} {g3 : Nat → Nat} {sv : Nat → Nat} {fa : Nat → Int32} {fy : Nat → Nat} {bs : Nat → Nat} {cf : Nat → Nat} (R : RLW G h z x mk sa L M F W fn fv fs tn tv ts kd p q bf len ta sp f1 f2 f3 ks ff fg co th fm cm be dz mn st un uv gn gv on tw bm g1 g2 g3 sv fa fy bs cf) (n : Int32) : Ct G yX7_end cX7_end 2 (some .int) 1 0 0 [.ref x, .int n] z h (fun a z1 h1 => ∃ (wr : Int32) (fs0 : List Value), a = some (.int wr) ∧ h1 (x + 23) = some (oO 8 fs0) ∧ Ct G yX8_end cX8_end 2 (some .int) 1 0 0 [.ref (x + 23), .int n] z1 h1 (fun b z2 h2 => b = some (.int wr) ∧ z2 ≤ z + 0 ∧ REL G h2 z2 x)) := by
  obtain ⟨hTv, hW1⟩ := R.wb
  obtain ⟨hP, hM, ⟨fo, hO⟩, ⟨hA, hAz⟩, hI, ⟨hFe, hF60⟩, ⟨hWe, hWt⟩, hB, hK, ⟨hT, hsp⟩, ⟨hcm, hcm20, hcf⟩, hN⟩ := R
  have hmk60 := hI.1.1
  have hav := hI.1.2.1
  have hnd : ∀ r, al sa r = true → (L r).Nodup := fun r hr => (ps_sort hP hr).2.1
  refine Ct.mono (c_PS_end n hP) ?_
  rintro a z1 h1 ⟨rfl, hf, hh⟩
  have hm := hf.mid hA hAz
  have hM1 := hM.at hm
  have hO1 := (hm _ (by omega) (by omega)).trans hO
  have hl80 : len ≤ 80 := hP.2.2.2.2.1.2.1
  rcases hh with ⟨m, f0, rfl, rfl, hP1⟩ | ⟨f0, rfl, hP1⟩
  · refine ⟨_, _, rfl, hM1.1, Ct.mono (c_Md_end (nI m) hl80 hM1) ?_⟩
    rintro b z2 h2 ⟨rfl, hf2, hh2⟩
    have hP2 := hP1.far hA hf2
    have hO2 := (hf2 _ (by omega)).trans hO1
    rcases hh2 with ⟨m2, f1, f2, rfl, hM2⟩ | ⟨f1, -⟩
    · have : m2 = m := nI_i2 (by omega) (by omega) f2.symm
      subst this
      exact ⟨rfl, Nat.le_refl _, RLW.ex (M := M) ⟨hP2, hM2, ⟨fo, hO2⟩, ⟨hA, hAz⟩, hI, ⟨hFe, hF60⟩, ⟨hWe, hWt⟩, fun j hj => hB j (by omega), hK, ⟨hT, hsp⟩, ⟨hcm, hcm20, hcf⟩, hN⟩⟩
    · rw [nI_toInt (by omega)] at f1; omega
  · refine ⟨_, _, rfl, hM1.1, Ct.mono (c_Md_end n hl80 hM1) ?_⟩
    rintro b z2 h2 ⟨rfl, hf2, hh2⟩
    have hP2 := hP1.far hA hf2
    have hO2 := (hf2 _ (by omega)).trans hO1
    rcases hh2 with ⟨m2, f1, rfl, -⟩ | ⟨f1, rfl, hM2⟩
    · rw [nI_toInt (by omega)] at f0; omega
    · exact ⟨rfl, Nat.le_refl _, RLW.ex (M := M) ⟨hP2, hM2, ⟨fo, hO2⟩, ⟨hA, hAz⟩, hI, ⟨hFe, hF60⟩, ⟨hWe, hWt⟩, hB, hK, ⟨hT, hsp⟩, ⟨hcm, hcm20, hcf⟩, hN⟩⟩
theorem sim_measure {G : Gd} {h : AH} {z x : Nat} {mk : Nat} {sa : Nat → Option Nat} {L : Nat → List Nat} {M : Nat → List Nat} {F : Nat → Nat} {W : Nat → Nat} {fn : Nat → Nat} {fv : Nat → Nat} {fs : Nat} {tn : Nat → Nat} {tv : Nat → Nat} {ts : Nat} {kd : Nat} {p : Nat} {q : Nat} {bf : Nat → Nat} {len : Nat} {ta : Nat → Nat} {sp : Nat} {f1 : Nat → Nat} {f2 : Nat → Nat} {f3 : Nat → Nat} {ks : Nat} {ff : Nat → Nat} {fg : Nat} {co : Nat} {th : Int32} {fm : Nat} {cm : Nat} {be : Nat} {dz : Nat → Bool} {mn : Nat → Nat} {st : Nat → Nat} {un : Nat → Nat} {uv : Nat → Nat} {gn : Nat → Nat} {gv : Nat → Nat} {on : Nat → Nat} {tw : Nat → Nat} {bm : Nat → Nat} {g1 : Nat → Nat} {g2 : Nat → Nat} {g3 : Nat → Nat} {sv : Nat → Nat} {fa : Nat → Int32} {fy : Nat → Nat} {bs : Nat → Nat} {cf : Nat → Nat} (R : RLW G h z x mk sa L M F W fn fv fs tn tv ts kd p q bf len ta sp f1 f2 f3 ks ff fg co th fm cm be dz mn st un uv gn gv on tw bm g1 g2 g3 sv fa fy bs cf) (a0 b0 c0 : Int32) : Ct G yX7_measure cX7_measure 4 (some .boolean) 4 0 0 [.ref x, .int a0, .int b0, .int c0] z h (fun a z1 h1 => ∃ (wr : Int32) (fs0 : List Value), a = some (.int wr) ∧ h1 (x + 23) = some (oO 8 fs0) ∧ Ct G yX8_measure cX8_measure 5 (some .boolean) 1 0 0 [.ref (x + 23), .int a0, .int b0, .int c0] z1 h1 (fun b z2 h2 => b = some (.int wr) ∧ z2 ≤ z + 0 ∧ REL G h2 z2 x)) := by
  obtain ⟨hTv, hW1⟩ := R.wb
  obtain ⟨hP, hM, ⟨fo, hO⟩, ⟨hA, hAz⟩, hI, ⟨hFe, hF60⟩, ⟨hWe, hWt⟩, hB, hK, ⟨hT, hsp⟩, ⟨hcm, hcm20, hcf⟩, hN⟩ := R
  have hmk60 := hI.1.1
  have hav := hI.1.2.1
  have hnd : ∀ r, al sa r = true → (L r).Nodup := fun r hr => (ps_sort hP hr).2.1
  refine Ct.mono (c_PS_measure a0 b0 c0 hTv hP) ?_
  rintro a z1 h1 ⟨rfl, hf, hh⟩
  have hm := hf.mid hA hAz
  have hM1 := hM.at hm
  have hO1 := (hm _ (by omega) (by omega)).trans hO
  rcases hh with ⟨f0, rfl, rfl⟩ | ⟨kd', p', q', fg', f0, rfl, rfl, rfl, hok, f1, rfl, hP1⟩
  · refine ⟨_, _, rfl, hM1.1, Ct.mono (c_Md_measure a0 b0 c0 hM1) ?_⟩
    rintro b z2 h2 ⟨rfl, hf2, hh2⟩
    have hP1 := hP
    have hP2 := hP1.far hA hf2
    have hO2 := (hf2 _ (by omega)).trans hO1
    rcases hh2 with ⟨-, rfl, hM2⟩ | ⟨_, _, _, f1, -⟩
    · exact ⟨rfl, Nat.le_refl _, RLW.ex (M := M) ⟨hP2, hM2, ⟨fo, hO2⟩, ⟨hA, hAz⟩, hI, ⟨hFe, hF60⟩, ⟨hWe, hWt⟩, hB, hK, ⟨hT, hsp⟩, ⟨hcm, hcm20, hcf⟩, hN⟩⟩
    · exact absurd f1 f0
  · refine ⟨_, _, rfl, hM1.1, Ct.mono (c_Md_measure (nI kd') (nI p') (nI q') hM1) ?_⟩
    rintro b z2 h2 ⟨rfl, hf2, hh2⟩
    have hP2 := hP1.far hA hf2
    have hO2 := (hf2 _ (by omega)).trans hO1
    rcases hh2 with ⟨f2, -⟩ | ⟨k2, p2, q2, -, e1, e2, e3, hok2, rfl, hM2⟩
    · exact absurd f0 f2
    · have e1 : k2 = kd' := nI_i2 (by have := hok2.1; omega) (by have := hok.1; omega) e1.symm
      have e2 : p2 = p' := nI_i2 (by have := hok2.2.2.1; omega) (by have := hok.2.2.1; omega) e2.symm
      have e3 : q2 = q' := nI_i2 (by have := hok2.2.2.2.2.1; omega) (by have := hok.2.2.2.2.1; omega) e3.symm
      subst e1; subst e2; subst e3
      obtain ⟨i1, i2, ⟨j1, j2, j3⟩, i4, i5, i6, i7⟩ := hI
      exact ⟨rfl, Nat.le_refl _, RLW.ex (M := M) ⟨hP2, hM2, ⟨fo, hO2⟩, ⟨hA, hAz⟩, ⟨i1, i2, ⟨j1, wtF_eq hWt, j3⟩, i4, i5, hok, i7⟩, ⟨hFe, hF60⟩, ⟨rfl, hWt⟩, hB, hK, ⟨hT, hsp⟩, ⟨hcm, hcm20, hcf⟩, hN.all f1⟩⟩
