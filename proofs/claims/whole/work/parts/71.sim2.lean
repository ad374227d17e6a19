/-! class and model, call by call: the answers -/
theorem sim_frequency {G : Gd} {h : AH} {z x : Nat} {mk : Nat} {sa : Nat → Option Nat} {L : Nat → List Nat} {M : Nat → List Nat} {F : Nat → Nat} {W : Nat → Nat} {fn : Nat → Nat} {fv : Nat → Nat} {fs : Nat} {tn : Nat → Nat} {tv : Nat → Nat} {ts : Nat} {kd : Nat} {p : Nat} {q : Nat} {bf : Nat → Nat} {len : Nat} {ta : Nat → Nat} {sp : Nat} {f1 : Nat → Nat} {f2 : Nat → Nat} {f3 : Nat → Nat} {ks : Nat} {ff : Nat → Nat} {fg : Nat} {co : Nat} {th : Int32} {fm : Nat} {cm : Nat} {be : Nat} {dz : Nat → Bool} {mn : Nat → Nat} {st : Nat → Nat} {un : Nat → Nat} {uv : Nat → Nat} {gn : Nat → Nat} {gv : Nat → Nat} {on : Nat → Nat} {tw : Nat → Nat} {bm : Nat → Nat} {g1 : Nat → Nat} {g2 : Nat → Nat} {g3 : Nat → Nat} {sv : Nat → Nat} {fa : Nat → Int32} {fy : Nat → Nat} {bs : Nat → Nat} {cf : Nat → Nat} (R : RLW G h z x mk sa L M F W fn fv fs tn tv ts kd p q bf len ta sp f1 f2 f3 ks ff fg co th fm cm be dz mn st un uv gn gv on tw bm g1 g2 g3 sv fa fy bs cf) (v : Int32) : Ct G yX7_frequency cX7_frequency 2 (some .int) 2 0 0 [.ref x, .int v] z h (fun a z1 h1 => ∃ (wr : Int32) (fs0 : List Value), a = some (.int wr) ∧ h1 (x + 23) = some (oO 8 fs0) ∧ Ct G yX8_frequency cX8_frequency 2 (some .int) 1 0 0 [.ref (x + 23), .int v] z1 h1 (fun b z2 h2 => b = some (.int wr) ∧ z2 ≤ z + 0 ∧ REL G h2 z2 x)) := by
  obtain ⟨hTv, hW1⟩ := R.wb
  obtain ⟨hP, hM, ⟨fo, hO⟩, ⟨hA, hAz⟩, hI, ⟨hFe, hF60⟩, ⟨hWe, hWt⟩, hB, hK, ⟨hT, hsp⟩, ⟨hcm, hcm20, hcf⟩, hN⟩ := R
  have hmk60 := hI.1.1
  have hav := hI.1.2.1
  have hnd : ∀ r, al sa r = true → (L r).Nodup := fun r hr => (ps_sort hP hr).2.1
  refine Ct.mono (c_PS_frequency v hP) ?_
  rintro a z1 h1 ⟨y0, rfl, rfl, rfl, hh⟩
  have hm : ∀ q, x + 23 ≤ q → q < x + 43 → h1 q = h1 q := fun _ _ _ => rfl
  have hM1 := hM.at hm
  have hO1 := (hm _ (by omega) (by omega)).trans hO
  refine ⟨_, _, rfl, hM1.1, Ct.mono (c_Md_frequency v hI hM1) ?_⟩
  rintro b z2 h2 ⟨rfl, hf2, w0, rfl, hh2, hM2⟩
  have hP1 := hP
  have hP2 := hP1.far hA hf2
  have hO2 := (hf2 _ (by omega)).trans hO1
  
  refine ⟨?_, Nat.le_refl _, RLW.ex (M := M) ⟨hP2, hM2, ⟨fo, hO2⟩, ⟨hA, hAz⟩, hI, ⟨hFe, hF60⟩, ⟨hWe, hWt⟩, hB, hK, ⟨hT, hsp⟩, ⟨hcm, hcm20, hcf⟩, hN⟩⟩
  congr 2
  have hFg : ∀ k, 1000000 ≤ k → F k = 0 := fun k hk => by
    obtain ⟨-, -, -, ⟨-, j2, j3, -⟩, -⟩ := hI
    rw [j2]
    unfold tF
    rw [tget_no.mpr (fun j hj e => by have := j3 j hj; omega)]
    rfl
  rcases hh with ⟨k, e1, rfl, rfl⟩ | ⟨e1, rfl⟩
  · rcases hh2 with ⟨k2, e2, e3, rfl⟩ | ⟨e2, -⟩
    · have : k2 = k := nI_i2 e2 (by omega) e3.symm
      rw [this, hFe]
    · rw [nI_toInt (by omega)] at e2; omega
  · rcases hh2 with ⟨k2, e2, rfl, rfl⟩ | ⟨e2, rfl⟩
    · rw [hFg k2 (by
        apply Nat.le_of_not_lt
        intro w
        unfold isNumB at e1
        rw [nI_toInt e2] at e1
        exact of_decide_eq_false e1 (by omega))]
      rfl
    · rfl
theorem sim_at {G : Gd} {h : AH} {z x : Nat} {mk : Nat} {sa : Nat → Option Nat} {L : Nat → List Nat} {M : Nat → List Nat} {F : Nat → Nat} {W : Nat → Nat} {fn : Nat → Nat} {fv : Nat → Nat} {fs : Nat} {tn : Nat → Nat} {tv : Nat → Nat} {ts : Nat} {kd : Nat} {p : Nat} {q : Nat} {bf : Nat → Nat} {len : Nat} {ta : Nat → Nat} {sp : Nat} {f1 : Nat → Nat} {f2 : Nat → Nat} {f3 : Nat → Nat} {ks : Nat} {ff : Nat → Nat} {fg : Nat} {co : Nat} {th : Int32} {fm : Nat} {cm : Nat} {be : Nat} {dz : Nat → Bool} {mn : Nat → Nat} {st : Nat → Nat} {un : Nat → Nat} {uv : Nat → Nat} {gn : Nat → Nat} {gv : Nat → Nat} {on : Nat → Nat} {tw : Nat → Nat} {bm : Nat → Nat} {g1 : Nat → Nat} {g2 : Nat → Nat} {g3 : Nat → Nat} {sv : Nat → Nat} {fa : Nat → Int32} {fy : Nat → Nat} {bs : Nat → Nat} {cf : Nat → Nat} (R : RLW G h z x mk sa L M F W fn fv fs tn tv ts kd p q bf len ta sp f1 f2 f3 ks ff fg co th fm cm be dz mn st un uv gn gv on tw bm g1 g2 g3 sv fa fy bs cf) (r i : Int32) : Ct G yX7_at cX7_at 4 (some .int) 1 0 0 [.ref x, .int r, .int i] z h (fun a z1 h1 => ∃ (wr : Int32) (fs0 : List Value), a = some (.int wr) ∧ h1 (x + 23) = some (oO 8 fs0) ∧ Ct G yX8_at cX8_at 3 (some .int) 3 0 0 [.ref (x + 23), .int r, .int i] z1 h1 (fun b z2 h2 => b = some (.int wr) ∧ z2 ≤ z + 0 ∧ REL G h2 z2 x)) := by
  obtain ⟨hTv, hW1⟩ := R.wb
  obtain ⟨hP, hM, ⟨fo, hO⟩, ⟨hA, hAz⟩, hI, ⟨hFe, hF60⟩, ⟨hWe, hWt⟩, hB, hK, ⟨hT, hsp⟩, ⟨hcm, hcm20, hcf⟩, hN⟩ := R
  have hmk60 := hI.1.1
  have hav := hI.1.2.1
  have hnd : ∀ r, al sa r = true → (L r).Nodup := fun r hr => (ps_sort hP hr).2.1
  refine Ct.mono (c_PS_at r i hP) ?_
  rintro a z1 h1 ⟨y0, rfl, rfl, rfl, hh⟩
  have hm : ∀ q, x + 23 ≤ q → q < x + 43 → h1 q = h1 q := fun _ _ _ => rfl
  have hM1 := hM.at hm
  have hO1 := (hm _ (by omega) (by omega)).trans hO
  refine ⟨_, _, rfl, hM1.1, Ct.mono (c_Md_at r i hI hM1) ?_⟩
  rintro b z2 h2 ⟨rfl, hf2, on', w0, rfl, hh2, hM2⟩
  have hP1 := hP
  have hP2 := hP1.far hA hf2
  have hO2 := (hf2 _ (by omega)).trans hO1
  
  refine ⟨?_, Nat.le_refl _, RLW.ex (M := M) ⟨hP2, hM2, ⟨fo, hO2⟩, ⟨hA, hAz⟩, hI, ⟨hFe, hF60⟩, ⟨hWe, hWt⟩, hB, hK, ⟨hT, hsp⟩, ⟨hcm, hcm20, hcf⟩, hN⟩⟩
  congr 2
  rcases hh with ⟨e0, rfl⟩ | ⟨k, hk, rfl, hs, hh⟩
  · rcases hh2 with ⟨-, rfl⟩ | ⟨k, rfl, hs, -⟩
    · rfl
    · exact (one_no (by have := hav k hs; omega) hs (sOf_av.mp e0)).elim
  · rcases hh2 with ⟨e0, -⟩ | ⟨k2, e2, hs2, hh2⟩
    · exact (one_no (by omega) hs e0).elim
    · have : k2 = k := nI_i2 (by have := hav k2 hs2; omega) (by omega) e2.symm
      subst this
      have hlen := (ps_sort hP hs).2.2.2
      rcases hh with ⟨j, e1, rfl, rfl⟩ | ⟨e1, rfl⟩
      · rcases hh2 with ⟨j2, e3, e4, rfl⟩ | ⟨e3, -⟩
        · rw [nI_i2 (by omega) (by omega) e4]
        · rw [nI_toInt (by omega)] at e3; omega
      · rcases hh2 with ⟨j2, e3, rfl, -⟩ | ⟨-, rfl⟩
        · rw [nI_toInt (by omega)] at e1; omega
        · rfl
theorem sim_member {G : Gd} {h : AH} {z x : Nat} {mk : Nat} {sa : Nat → Option Nat} {L : Nat → List Nat} {M : Nat → List Nat} {F : Nat → Nat} {W : Nat → Nat} {fn : Nat → Nat} {fv : Nat → Nat} {fs : Nat} {tn : Nat → Nat} {tv : Nat → Nat} {ts : Nat} {kd : Nat} {p : Nat} {q : Nat} {bf : Nat → Nat} {len : Nat} {ta : Nat → Nat} {sp : Nat} {f1 : Nat → Nat} {f2 : Nat → Nat} {f3 : Nat → Nat} {ks : Nat} {ff : Nat → Nat} {fg : Nat} {co : Nat} {th : Int32} {fm : Nat} {cm : Nat} {be : Nat} {dz : Nat → Bool} {mn : Nat → Nat} {st : Nat → Nat} {un : Nat → Nat} {uv : Nat → Nat} {gn : Nat → Nat} {gv : Nat → Nat} {on : Nat → Nat} {tw : Nat → Nat} {bm : Nat → Nat} {g1 : Nat → Nat} {g2 : Nat → Nat} {g3 : Nat → Nat} {sv : Nat → Nat} {fa : Nat → Int32} {fy : Nat → Nat} {bs : Nat → Nat} {cf : Nat → Nat} (R : RLW G h z x mk sa L M F W fn fv fs tn tv ts kd p q bf len ta sp f1 f2 f3 ks ff fg co th fm cm be dz mn st un uv gn gv on tw bm g1 g2 g3 sv fa fy bs cf) (i : Int32) : Ct G yX7_member cX7_member 5 (some .int) 2 0 0 [.ref x, .int i] z h (fun a z1 h1 => ∃ (wr : Int32) (fs0 : List Value), a = some (.int wr) ∧ h1 (x + 23) = some (oO 8 fs0) ∧ Ct G yX8_member cX8_member 2 (some .int) 1 0 0 [.ref (x + 23), .int i] z1 h1 (fun b z2 h2 => b = some (.int wr) ∧ z2 ≤ z + 0 ∧ REL G h2 z2 x)) := by
  obtain ⟨hTv, hW1⟩ := R.wb
  obtain ⟨hP, hM, ⟨fo, hO⟩, ⟨hA, hAz⟩, hI, ⟨hFe, hF60⟩, ⟨hWe, hWt⟩, hB, hK, ⟨hT, hsp⟩, ⟨hcm, hcm20, hcf⟩, hN⟩ := R
  have hmk60 := hI.1.1
  have hav := hI.1.2.1
  have hnd : ∀ r, al sa r = true → (L r).Nodup := fun r hr => (ps_sort hP hr).2.1
  refine Ct.mono (c_PS_member i hP) ?_
  rintro a z1 h1 ⟨y0, rfl, rfl, rfl, hh⟩
  have hm : ∀ q, x + 23 ≤ q → q < x + 43 → h1 q = h1 q := fun _ _ _ => rfl
  have hM1 := hM.at hm
  have hO1 := (hm _ (by omega) (by omega)).trans hO
  refine ⟨_, _, rfl, hM1.1, Ct.mono (c_Md_member i hcm20 hM1) ?_⟩
  rintro b z2 h2 ⟨rfl, hf2, w0, rfl, hh2, hM2⟩
  have hP1 := hP
  have hP2 := hP1.far hA hf2
  have hO2 := (hf2 _ (by omega)).trans hO1
  
  refine ⟨?_, Nat.le_refl _, RLW.ex (M := M) ⟨hP2, hM2, ⟨fo, hO2⟩, ⟨hA, hAz⟩, hI, ⟨hFe, hF60⟩, ⟨hWe, hWt⟩, hB, hK, ⟨hT, hsp⟩, ⟨hcm, hcm20, hcf⟩, hN⟩⟩
  congr 2
  rcases hh with ⟨j, e1, rfl, rfl⟩ | ⟨e1, rfl⟩
  · rcases hh2 with ⟨j2, e3, e4, rfl⟩ | ⟨e3, -⟩
    · have : j2 = j := nI_i2 (by omega) (by omega) e4.symm
      rw [this, hcf j (by omega)]
    · rw [nI_toInt (by omega)] at e3; omega
  · rcases hh2 with ⟨j2, e3, rfl, -⟩ | ⟨-, rfl⟩
    · rw [nI_toInt (by omega)] at e1; omega
    · rfl
theorem sim_like {G : Gd} {h : AH} {z x : Nat} {mk : Nat} {sa : Nat → Option Nat} {L : Nat → List Nat} {M : Nat → List Nat} {F : Nat → Nat} {W : Nat → Nat} {fn : Nat → Nat} {fv : Nat → Nat} {fs : Nat} {tn : Nat → Nat} {tv : Nat → Nat} {ts : Nat} {kd : Nat} {p : Nat} {q : Nat} {bf : Nat → Nat} {len : Nat} {ta : Nat → Nat} {sp : Nat} {f1 : Nat → Nat} {f2 : Nat → Nat} {f3 : Nat → Nat} {ks : Nat} {ff : Nat → Nat} {fg : Nat} {co : Nat} {th : Int32} {fm : Nat} {cm : Nat} {be : Nat} {dz : Nat → Bool} {mn : Nat → Nat} {st : Nat → Nat} {un : Nat → Nat} {uv : Nat → Nat} {gn : Nat → Nat} {gv : Nat → Nat} {on : Nat → Nat} {tw : Nat → Nat} {bm : Nat → Nat} {g1 : Nat → Nat} {g2 : Nat → Nat} {g3 : Nat → Nat} {sv : Nat → Nat} {fa : Nat → Int32} {fy : Nat → Nat} {bs : Nat → Nat} {cf : Nat → Nat} (R : RLW G h z x mk sa L M F W fn fv fs tn tv ts kd p q bf len ta sp f1 f2 f3 ks ff fg co th fm cm be dz mn st un uv gn gv on tw bm g1 g2 g3 sv fa fy bs cf) (r s what : Int32) : Ct G yX7_like cX7_like 12 (some .long) 3 0 0 [.ref x, .int r, .int s, .int what] z h (fun a z1 h1 => ∃ (wr : Int64) (fs0 : List Value), a = some (.long wr) ∧ h1 (x + 23) = some (oO 8 fs0) ∧ Ct G yX8_like cX8_like 16 (some .long) 50 0 0 [.ref (x + 23), .int r, .int s, .int what] z1 h1 (fun b z2 h2 => b = some (.long wr) ∧ z2 ≤ z + 0 ∧ REL G h2 z2 x)) := by
  obtain ⟨hTv, hW1⟩ := R.wb
  obtain ⟨hP, hM, ⟨fo, hO⟩, ⟨hA, hAz⟩, hI, ⟨hFe, hF60⟩, ⟨hWe, hWt⟩, hB, hK, ⟨hT, hsp⟩, ⟨hcm, hcm20, hcf⟩, hN⟩ := R
  have hmk60 := hI.1.1
  have hav := hI.1.2.1
  have hnd : ∀ r, al sa r = true → (L r).Nodup := fun r hr => (ps_sort hP hr).2.1
  refine Ct.mono (c_PS_like r s what hP) ?_
  rintro a z1 h1 ⟨y0, rfl, rfl, hf, hP1, hh⟩
  have hm := hf.mid (x := x) (by omega)
  have hM1 := hM.at hm
  have hO1 := (hm _ (by omega) (by omega)).trans hO
  refine ⟨_, _, rfl, hM1.1, Ct.mono (c_Md_like r s what hI hM1) ?_⟩
  rintro b z2 h2 ⟨rfl, hf2, w0, rfl, hh2, hM2⟩
  have hP2 := hP1.far hA hf2
  have hO2 := (hf2 _ (by omega)).trans hO1
  refine ⟨?_, Nat.le_refl _, RLW.ex (M := M) ⟨hP2, hM2, ⟨fo, hO2⟩, ⟨hA, hAz⟩, hI, ⟨hFe, hF60⟩, ⟨hWe, hWt⟩, hB, hK, ⟨hT, hsp⟩, ⟨hcm, hcm20, hcf⟩, hN⟩⟩
  congr 2
  rcases hh with ⟨e0, rfl⟩ | ⟨i, j, hi, hj, rfl, rfl, hne, h3, h4, rfl⟩
  · rcases hh2 with ⟨-, rfl⟩ | ⟨i, j, rfl, rfl, h3, h4, hne, -⟩
    · rfl
    · have := two_yes (by have := hav i h3; omega) (by have := hav j h4; omega) h3 h4 hne
      rw [two_no.mp e0] at this
      cases this
  · rcases hh2 with ⟨e0, -⟩ | ⟨i2, j2, e1, e2, h5, h6, -, rfl⟩
    · rw [two_yes (by omega) (by omega) h3 h4 hne] at e0
      cases e0
    · rw [nI_i2 (by omega) (by have := hav i2 h5; omega) e1, nI_i2 (by omega) (by have := hav j2 h6; omega) e2]
theorem sim_why {G : Gd} {h : AH} {z x : Nat} {mk : Nat} {sa : Nat → Option Nat} {L : Nat → List Nat} {M : Nat → List Nat} {F : Nat → Nat} {W : Nat → Nat} {fn : Nat → Nat} {fv : Nat → Nat} {fs : Nat} {tn : Nat → Nat} {tv : Nat → Nat} {ts : Nat} {kd : Nat} {p : Nat} {q : Nat} {bf : Nat → Nat} {len : Nat} {ta : Nat → Nat} {sp : Nat} {f1 : Nat → Nat} {f2 : Nat → Nat} {f3 : Nat → Nat} {ks : Nat} {ff : Nat → Nat} {fg : Nat} {co : Nat} {th : Int32} {fm : Nat} {cm : Nat} {be : Nat} {dz : Nat → Bool} {mn : Nat → Nat} {st : Nat → Nat} {un : Nat → Nat} {uv : Nat → Nat} {gn : Nat → Nat} {gv : Nat → Nat} {on : Nat → Nat} {tw : Nat → Nat} {bm : Nat → Nat} {g1 : Nat → Nat} {g2 : Nat → Nat} {g3 : Nat → Nat} {sv : Nat → Nat} {fa : Nat → Int32} {fy : Nat → Nat} {bs : Nat → Nat} {cf : Nat → Nat} (R : RLW G h z x mk sa L M F W fn fv fs tn tv ts kd p q bf len ta sp f1 f2 f3 ks ff fg co th fm cm be dz mn st un uv gn gv on tw bm g1 g2 g3 sv fa fy bs cf) (r s : Int32) : Ct G yX7_why cX7_why 5 (some .int) 4 0 0 [.ref x, .int r, .int s] z h (fun a z1 h1 => ∃ (wr : Int32) (fs0 : List Value), a = some (.int wr) ∧ h1 (x + 23) = some (oO 8 fs0) ∧ Ct G yX8_why cX8_why 3 (some .int) 4 0 0 [.ref (x + 23), .int r, .int s] z1 h1 (fun b z2 h2 => b = some (.int wr) ∧ z2 ≤ z + 0 ∧ REL G h2 z2 x)) := by
  obtain ⟨hTv, hW1⟩ := R.wb
  obtain ⟨hP, hM, ⟨fo, hO⟩, ⟨hA, hAz⟩, hI, ⟨hFe, hF60⟩, ⟨hWe, hWt⟩, hB, hK, ⟨hT, hsp⟩, ⟨hcm, hcm20, hcf⟩, hN⟩ := R
  have hmk60 := hI.1.1
  have hav := hI.1.2.1
  have hnd : ∀ r, al sa r = true → (L r).Nodup := fun r hr => (ps_sort hP hr).2.1
  refine Ct.mono (c_PS_why r s hP) ?_
  rintro a z1 h1 ⟨y0, rfl, rfl, hf, hP1, hh⟩
  have hm := hf.mid (x := x) (by omega)
  have hM1 := hM.at hm
  have hO1 := (hm _ (by omega) (by omega)).trans hO
  refine ⟨_, _, rfl, hM1.1, Ct.mono (c_Md_why r s hI hM1) ?_⟩
  rintro b z2 h2 ⟨rfl, hf2, on', tw', hh2, hM2⟩
  have hP2 := hP1.far hA hf2
  have hO2 := (hf2 _ (by omega)).trans hO1
  refine ⟨?_, Nat.le_refl _, RLW.ex (M := M) ⟨hP2, hM2, ⟨fo, hO2⟩, ⟨hA, hAz⟩, hI, ⟨hFe, hF60⟩, ⟨hWe, hWt⟩, hB, hK, ⟨hT, hsp⟩, ⟨hcm, hcm20, hcf⟩, hN⟩⟩
  rcases hh with ⟨e0, rfl⟩ | ⟨i, j, f, hi, hj, rfl, rfl, hne, h3, h4, hw, rfl⟩
  · rcases hh2 with ⟨-, rfl⟩ | ⟨i, j, rfl, rfl, h3, h4, hne, -⟩
    · rfl
    · have := two_yes (by have := hav i h3; omega) (by have := hav j h4; omega) h3 h4 hne
      rw [two_no.mp e0] at this
      cases this
  · rcases hh2 with ⟨e0, -⟩ | ⟨i2, j2, e1, e2, h5, h6, -, rfl⟩
    · rw [two_yes (by omega) (by omega) h3 h4 hne] at e0
      cases e0
    · rw [← nI_i2 (by omega) (by have := hav i2 h5; omega) e1, ← nI_i2 (by omega) (by have := hav j2 h6; omega) e2, whyR_N (hnd j h4) hw]
theorem sim_about {G : Gd} {h : AH} {z x : Nat} {mk : Nat} {sa : Nat → Option Nat} {L : Nat → List Nat} {M : Nat → List Nat} {F : Nat → Nat} {W : Nat → Nat} {fn : Nat → Nat} {fv : Nat → Nat} {fs : Nat} {tn : Nat → Nat} {tv : Nat → Nat} {ts : Nat} {kd : Nat} {p : Nat} {q : Nat} {bf : Nat → Nat} {len : Nat} {ta : Nat → Nat} {sp : Nat} {f1 : Nat → Nat} {f2 : Nat → Nat} {f3 : Nat → Nat} {ks : Nat} {ff : Nat → Nat} {fg : Nat} {co : Nat} {th : Int32} {fm : Nat} {cm : Nat} {be : Nat} {dz : Nat → Bool} {mn : Nat → Nat} {st : Nat → Nat} {un : Nat → Nat} {uv : Nat → Nat} {gn : Nat → Nat} {gv : Nat → Nat} {on : Nat → Nat} {tw : Nat → Nat} {bm : Nat → Nat} {g1 : Nat → Nat} {g2 : Nat → Nat} {g3 : Nat → Nat} {sv : Nat → Nat} {fa : Nat → Int32} {fy : Nat → Nat} {bs : Nat → Nat} {cf : Nat → Nat} (R : RLW G h z x mk sa L M F W fn fv fs tn tv ts kd p q bf len ta sp f1 f2 f3 ks ff fg co th fm cm be dz mn st un uv gn gv on tw bm g1 g2 g3 sv fa fy bs cf) (r what : Int32) : Ct G yX7_about cX7_about 4 (some .int) 5 0 0 [.ref x, .int r, .int what] z h (fun a z1 h1 => ∃ (wr : Int32) (fs0 : List Value), a = some (.int wr) ∧ h1 (x + 23) = some (oO 8 fs0) ∧ Ct G yX8_about cX8_about 5 (some .int) 4 0 0 [.ref (x + 23), .int r, .int what] z1 h1 (fun b z2 h2 => b = some (.int wr) ∧ z2 ≤ z + 0 ∧ REL G h2 z2 x)) := by
  obtain ⟨hTv, hW1⟩ := R.wb
  obtain ⟨hP, hM, ⟨fo, hO⟩, ⟨hA, hAz⟩, hI, ⟨hFe, hF60⟩, ⟨hWe, hWt⟩, hB, hK, ⟨hT, hsp⟩, ⟨hcm, hcm20, hcf⟩, hN⟩ := R
  have hmk60 := hI.1.1
  have hav := hI.1.2.1
  have hnd : ∀ r, al sa r = true → (L r).Nodup := fun r hr => (ps_sort hP hr).2.1
  refine Ct.mono (c_PS_about r what hN hP) ?_
  rintro a z1 h1 ⟨y0, rfl, rfl, hf, ff', fg', hN1, hP1, hh⟩
  have hm := hf.mid (x := x) (by omega)
  have hM1 := hM.at hm
  have hO1 := (hm _ (by omega) (by omega)).trans hO
  refine ⟨_, _, rfl, hM1.1, Ct.mono (c_Md_about r what hI hM1) ?_⟩
  rintro b z2 h2 ⟨rfl, hf2, w0, on', fa', rfl, hh2, hM2⟩
  have hP2 := hP1.far hA hf2
  have hO2 := (hf2 _ (by omega)).trans hO1
  refine ⟨?_, Nat.le_refl _, RLW.ex (M := M) ⟨hP2, hM2, ⟨fo, hO2⟩, ⟨hA, hAz⟩, hI, ⟨hFe, hF60⟩, ⟨hWe, hWt⟩, hB, hK, ⟨hT, hsp⟩, ⟨hcm, hcm20, hcf⟩, hN1⟩⟩
  congr 2
  rcases hh with ⟨e0, rfl⟩ | ⟨k, hk, rfl, hs, hh⟩
  · rcases hh2 with ⟨-, rfl⟩ | ⟨k, rfl, hs, -⟩
    · rfl
    · exact (one_no (by have := hav k hs; omega) hs (sOf_av.mp e0)).elim
  · rcases hh2 with ⟨e0, -⟩ | ⟨k2, e2, hs2, hh2⟩
    · exact (one_no (by omega) hs e0).elim
    · have : k2 = k := nI_i2 (by have := hav k2 hs2; omega) (by omega) e2.symm
      subst this
      rcases hh with ⟨n4, n5, rfl⟩ | ⟨hfr, hh⟩
      · rcases hh2 with ⟨-, -, rfl⟩ | ⟨-, ⟨e, -⟩ | ⟨e, -⟩⟩
        · rfl
        · exact absurd e n4
        · exact absurd e n5
      · obtain ⟨hff, hsy, hmm, h60⟩ := net_f hP1 hav hfr
        rcases hh2 with ⟨n4, n5, -⟩ | ⟨hd, hh2⟩
        · rcases hh with ⟨e, -⟩ | ⟨e, -⟩
          · exact absurd e n4
          · exact absurd e n5
        · rcases hh with ⟨rfl, hy⟩ | ⟨rfl, rfl⟩
          · rcases hh2 with ⟨-, n, rfl, hn, h5, h6⟩ | ⟨e, -⟩
            · exact (ag_least hff hsy hmm hmk60 h60 hk hd hy hn h5 h6).symm
            · exact absurd (nI_i2 (by omega) (by omega) e) (by omega)
          · rcases hh2 with ⟨e, -⟩ | ⟨-, rfl⟩
            · exact absurd (nI_i2 (by omega) (by omega) e) (by omega)
            · rw [← fmL_len, fm_eq hff hsy hmm hmk60 h60 hk hd]
theorem sim_chain {G : Gd} {h : AH} {z x : Nat} {mk : Nat} {sa : Nat → Option Nat} {L : Nat → List Nat} {M : Nat → List Nat} {F : Nat → Nat} {W : Nat → Nat} {fn : Nat → Nat} {fv : Nat → Nat} {fs : Nat} {tn : Nat → Nat} {tv : Nat → Nat} {ts : Nat} {kd : Nat} {p : Nat} {q : Nat} {bf : Nat → Nat} {len : Nat} {ta : Nat → Nat} {sp : Nat} {f1 : Nat → Nat} {f2 : Nat → Nat} {f3 : Nat → Nat} {ks : Nat} {ff : Nat → Nat} {fg : Nat} {co : Nat} {th : Int32} {fm : Nat} {cm : Nat} {be : Nat} {dz : Nat → Bool} {mn : Nat → Nat} {st : Nat → Nat} {un : Nat → Nat} {uv : Nat → Nat} {gn : Nat → Nat} {gv : Nat → Nat} {on : Nat → Nat} {tw : Nat → Nat} {bm : Nat → Nat} {g1 : Nat → Nat} {g2 : Nat → Nat} {g3 : Nat → Nat} {sv : Nat → Nat} {fa : Nat → Int32} {fy : Nat → Nat} {bs : Nat → Nat} {cf : Nat → Nat} (R : RLW G h z x mk sa L M F W fn fv fs tn tv ts kd p q bf len ta sp f1 f2 f3 ks ff fg co th fm cm be dz mn st un uv gn gv on tw bm g1 g2 g3 sv fa fy bs cf) (r s : Int32) : Ct G yX7_chain cX7_chain 3 (some .int) 5 0 0 [.ref x, .int r, .int s] z h (fun a z1 h1 => ∃ (wr : Int32) (fs0 : List Value), a = some (.int wr) ∧ h1 (x + 23) = some (oO 8 fs0) ∧ Ct G yX8_chain cX8_chain 3 (some .int) 4 0 0 [.ref (x + 23), .int r, .int s] z1 h1 (fun b z2 h2 => b = some (.int wr) ∧ z2 ≤ z + 0 ∧ REL G h2 z2 x)) := by
  obtain ⟨hTv, hW1⟩ := R.wb
  obtain ⟨hP, hM, ⟨fo, hO⟩, ⟨hA, hAz⟩, hI, ⟨hFe, hF60⟩, ⟨hWe, hWt⟩, hB, hK, ⟨hT, hsp⟩, ⟨hcm, hcm20, hcf⟩, hN⟩ := R
  have hmk60 := hI.1.1
  have hav := hI.1.2.1
  have hnd : ∀ r, al sa r = true → (L r).Nodup := fun r hr => (ps_sort hP hr).2.1
  refine Ct.mono (c_PS_chain r s hN hP) ?_
  rintro a z1 h1 ⟨y0, rfl, rfl, hf, ff', fg', hN1, hP1, hh⟩
  have hm := hf.mid (x := x) (by omega)
  have hM1 := hM.at hm
  have hO1 := (hm _ (by omega) (by omega)).trans hO
  refine ⟨_, _, rfl, hM1.1, Ct.mono (c_Md_chain r s hI hM1) ?_⟩
  rintro b z2 h2 ⟨rfl, hf2, w0, fa', rfl, hh2, hM2⟩
  have hP2 := hP1.far hA hf2
  have hO2 := (hf2 _ (by omega)).trans hO1
  refine ⟨?_, Nat.le_refl _, RLW.ex (M := M) ⟨hP2, hM2, ⟨fo, hO2⟩, ⟨hA, hAz⟩, hI, ⟨hFe, hF60⟩, ⟨hWe, hWt⟩, hB, hK, ⟨hT, hsp⟩, ⟨hcm, hcm20, hcf⟩, hN1⟩⟩
  congr 2
  rcases hh with ⟨e0, rfl⟩ | ⟨i, j, hi, hj, rfl, rfl, h3, h4, hfr, rfl⟩
  · rcases hh2 with ⟨-, rfl⟩ | ⟨i, j, rfl, rfl, h3, h4, -⟩
    · rfl
    · rcases e0 with e0 | e0
      · exact (one_no (by have := hav i h3; omega) h3 (sOf_av.mp e0)).elim
      · exact (one_no (by have := hav j h4; omega) h4 (sOf_av.mp e0)).elim
  · obtain ⟨hff, hsy, hmm, h60⟩ := net_f hP1 hav hfr
    rcases hh2 with ⟨e0, -⟩ | ⟨i2, j2, e1, e2, h5, h6, hd, rfl⟩
    · rcases e0 with e0 | e0
      · exact (one_no (by omega) h3 e0).elim
      · exact (one_no (by omega) h4 e0).elim
    · have e1 : i2 = i := nI_i2 (by have := hav i2 h5; omega) (by omega) e1.symm
      have e2 : j2 = j := nI_i2 (by have := hav j2 h6; omega) (by omega) e2.symm
      subst e1; subst e2
      exact (ag_chain hff hsy hmm hmk60 h60 hi hj hd).symm
theorem sim_next {G : Gd} {h : AH} {z x : Nat} {mk : Nat} {sa : Nat → Option Nat} {L : Nat → List Nat} {M : Nat → List Nat} {F : Nat → Nat} {W : Nat → Nat} {fn : Nat → Nat} {fv : Nat → Nat} {fs : Nat} {tn : Nat → Nat} {tv : Nat → Nat} {ts : Nat} {kd : Nat} {p : Nat} {q : Nat} {bf : Nat → Nat} {len : Nat} {ta : Nat → Nat} {sp : Nat} {f1 : Nat → Nat} {f2 : Nat → Nat} {f3 : Nat → Nat} {ks : Nat} {ff : Nat → Nat} {fg : Nat} {co : Nat} {th : Int32} {fm : Nat} {cm : Nat} {be : Nat} {dz : Nat → Bool} {mn : Nat → Nat} {st : Nat → Nat} {un : Nat → Nat} {uv : Nat → Nat} {gn : Nat → Nat} {gv : Nat → Nat} {on : Nat → Nat} {tw : Nat → Nat} {bm : Nat → Nat} {g1 : Nat → Nat} {g2 : Nat → Nat} {g3 : Nat → Nat} {sv : Nat → Nat} {fa : Nat → Int32} {fy : Nat → Nat} {bs : Nat → Nat} {cf : Nat → Nat} (R : RLW G h z x mk sa L M F W fn fv fs tn tv ts kd p q bf len ta sp f1 f2 f3 ks ff fg co th fm cm be dz mn st un uv gn gv on tw bm g1 g2 g3 sv fa fy bs cf) (r s : Int32) : Ct G yX7_next cX7_next 4 (some .int) 6 0 0 [.ref x, .int r, .int s] z h (fun a z1 h1 => ∃ (wr : Int32) (fs0 : List Value), a = some (.int wr) ∧ h1 (x + 23) = some (oO 8 fs0) ∧ Ct G yX8_next cX8_next 4 (some .int) 4 0 0 [.ref (x + 23), .int r, .int s] z1 h1 (fun b z2 h2 => b = some (.int wr) ∧ z2 ≤ z + 0 ∧ REL G h2 z2 x)) := by
  obtain ⟨hTv, hW1⟩ := R.wb
  obtain ⟨hP, hM, ⟨fo, hO⟩, ⟨hA, hAz⟩, hI, ⟨hFe, hF60⟩, ⟨hWe, hWt⟩, hB, hK, ⟨hT, hsp⟩, ⟨hcm, hcm20, hcf⟩, hN⟩ := R
  have hmk60 := hI.1.1
  have hav := hI.1.2.1
  have hnd : ∀ r, al sa r = true → (L r).Nodup := fun r hr => (ps_sort hP hr).2.1
  refine Ct.mono (c_PS_next r s hN hP) ?_
  rintro a z1 h1 ⟨y0, rfl, rfl, hf, ff', fg', hN1, hP1, hh⟩
  have hm := hf.mid (x := x) (by omega)
  have hM1 := hM.at hm
  have hO1 := (hm _ (by omega) (by omega)).trans hO
  refine ⟨_, _, rfl, hM1.1, Ct.mono (c_Md_next r s hI hM1) ?_⟩
  rintro b z2 h2 ⟨rfl, hf2, w0, fa', rfl, hh2, hM2⟩
  have hP2 := hP1.far hA hf2
  have hO2 := (hf2 _ (by omega)).trans hO1
  refine ⟨?_, Nat.le_refl _, RLW.ex (M := M) ⟨hP2, hM2, ⟨fo, hO2⟩, ⟨hA, hAz⟩, hI, ⟨hFe, hF60⟩, ⟨hWe, hWt⟩, hB, hK, ⟨hT, hsp⟩, ⟨hcm, hcm20, hcf⟩, hN1⟩⟩
  congr 2
  rcases hh with ⟨e0, rfl⟩ | ⟨i, j, hi, hj, rfl, rfl, h3, h4, hfr, hC⟩
  · rcases hh2 with ⟨-, rfl⟩ | ⟨i, j, rfl, rfl, h3, h4, hne, -⟩
    · rfl
    · have := two_yes (by have := hav i h3; omega) (by have := hav j h4; omega) h3 h4 hne
      rcases e0 with e0 | e0
      · exact (one_no (by have := hav i h3; omega) h3 (sOf_av.mp e0)).elim
      · exact (one_no (by have := hav j h4; omega) h4 (sOf_av.mp e0)).elim
  · obtain ⟨hff, hsy, hmm, h60⟩ := net_f hP1 hav hfr
    rcases hh2 with ⟨e0, rfl⟩ | ⟨i2, j2, e1, e2, h5, h6, hne, hd, hM9⟩
    · have hij : i = j := by
        apply Classical.byContradiction
        intro hne
        rw [two_yes (by omega) (by omega) h3 h4 hne] at e0
        cases e0
      subst hij
      rcases stp_dist (f := i) hff (fun r s h => by have := hmm r s h; omega) h60 (by omega) i with ⟨n, g1, g2, g3⟩ | ⟨g1, g2⟩
      · have hn0 : n = 0 := by
          apply Classical.byContradiction
          intro hn
          exact g3 0 (by omega) rfl
        subst hn0
        rw [g1] at hC
        rcases hC with ⟨-, e⟩ | ⟨t, t1, t2, -⟩
        · exact e.symm
        · cases t2; omega
      · exact absurd rfl (g2 0)
    · have e1 : i2 = i := nI_i2 (by have := hav i2 h5; omega) (by omega) e1.symm
      have e2 : j2 = j := nI_i2 (by have := hav j2 h6; omega) (by omega) e2.symm
      subst e1; subst e2
      exact (ag_next hff hsy hmm hmk60 h60 hi hj hne hd hC hM9).symm
theorem sim_count {G : Gd} {h : AH} {z x : Nat} {mk : Nat} {sa : Nat → Option Nat} {L : Nat → List Nat} {M : Nat → List Nat} {F : Nat → Nat} {W : Nat → Nat} {fn : Nat → Nat} {fv : Nat → Nat} {fs : Nat} {tn : Nat → Nat} {tv : Nat → Nat} {ts : Nat} {kd : Nat} {p : Nat} {q : Nat} {bf : Nat → Nat} {len : Nat} {ta : Nat → Nat} {sp : Nat} {f1 : Nat → Nat} {f2 : Nat → Nat} {f3 : Nat → Nat} {ks : Nat} {ff : Nat → Nat} {fg : Nat} {co : Nat} {th : Int32} {fm : Nat} {cm : Nat} {be : Nat} {dz : Nat → Bool} {mn : Nat → Nat} {st : Nat → Nat} {un : Nat → Nat} {uv : Nat → Nat} {gn : Nat → Nat} {gv : Nat → Nat} {on : Nat → Nat} {tw : Nat → Nat} {bm : Nat → Nat} {g1 : Nat → Nat} {g2 : Nat → Nat} {g3 : Nat → Nat} {sv : Nat → Nat} {fa : Nat → Int32} {fy : Nat → Nat} {bs : Nat → Nat} {cf : Nat → Nat} (R : RLW G h z x mk sa L M F W fn fv fs tn tv ts kd p q bf len ta sp f1 f2 f3 ks ff fg co th fm cm be dz mn st un uv gn gv on tw bm g1 g2 g3 sv fa fy bs cf) (what : Int32) : Ct G yX7_count cX7_count 2 (some .int) 6 0 0 [.ref x, .int what] z h (fun a z1 h1 => ∃ (wr : Int32) (fs0 : List Value), a = some (.int wr) ∧ h1 (x + 23) = some (oO 8 fs0) ∧ Ct G yX8_count cX8_count 5 (some .int) 4 0 0 [.ref (x + 23), .int what] z1 h1 (fun b z2 h2 => b = some (.int wr) ∧ z2 ≤ z + 0 ∧ REL G h2 z2 x)) := by
  obtain ⟨hTv, hW1⟩ := R.wb
  obtain ⟨hP, hM, ⟨fo, hO⟩, ⟨hA, hAz⟩, hI, ⟨hFe, hF60⟩, ⟨hWe, hWt⟩, hB, hK, ⟨hT, hsp⟩, ⟨hcm, hcm20, hcf⟩, hN⟩ := R
  have hmk60 := hI.1.1
  have hav := hI.1.2.1
  have hnd : ∀ r, al sa r = true → (L r).Nodup := fun r hr => (ps_sort hP hr).2.1
  refine Ct.mono (c_PS_count what hN hP) ?_
  rintro a z1 h1 ⟨y0, rfl, rfl, hf, ff', fg', hN1, hP1, hh⟩
  have hm := hf.mid (x := x) (by omega)
  have hM1 := hM.at hm
  have hO1 := (hm _ (by omega) (by omega)).trans hO
  refine ⟨_, _, rfl, hM1.1, Ct.mono (c_Md_count what hI hM1) ?_⟩
  rintro b z2 h2 ⟨rfl, hf2, w0, fa', rfl, hh2, hM2⟩
  have hP2 := hP1.far hA hf2
  have hO2 := (hf2 _ (by omega)).trans hO1
  refine ⟨?_, Nat.le_refl _, RLW.ex (M := M) ⟨hP2, hM2, ⟨fo, hO2⟩, ⟨hA, hAz⟩, hI, ⟨hFe, hF60⟩, ⟨hWe, hWt⟩, hB, hK, ⟨hT, hsp⟩, ⟨hcm, hcm20, hcf⟩, hN1⟩⟩
  congr 2
  rcases hh with ⟨n8, rfl⟩ | ⟨rfl, hfr, rfl⟩
  · rcases hh2 with ⟨-, rfl⟩ | ⟨e, -⟩
    · have ht : ∀ f, f < 5 → (fun f => sv (mpW f)) f = ta f := fun f hf => (hT f hf).symm
      unfold cntV cntR cntN al
      dsimp only
      rw [← hT 0 (by omega), ← hT 1 (by omega), ← hT 2 (by omega), ← hT 3 (by omega), ← hT 4 (by omega), hsp]
    · exact absurd e n8
  · rcases hh2 with ⟨e, -⟩ | ⟨-, c, hc, rfl⟩
    · exact absurd rfl e
    · obtain ⟨hff, hsy, hmm, h60⟩ := net_f hP1 hav hfr
      rw [(ag_count (c := c) hff hsy (fun r s h => ⟨hmm r s h, (pE_av h).1⟩) hmk60 h60 hc mk (Nat.le_refl _)).1]
      rfl
theorem sim_pairs {G : Gd} {h : AH} {z x : Nat} {mk : Nat} {sa : Nat → Option Nat} {L : Nat → List Nat} {M : Nat → List Nat} {F : Nat → Nat} {W : Nat → Nat} {fn : Nat → Nat} {fv : Nat → Nat} {fs : Nat} {tn : Nat → Nat} {tv : Nat → Nat} {ts : Nat} {kd : Nat} {p : Nat} {q : Nat} {bf : Nat → Nat} {len : Nat} {ta : Nat → Nat} {sp : Nat} {f1 : Nat → Nat} {f2 : Nat → Nat} {f3 : Nat → Nat} {ks : Nat} {ff : Nat → Nat} {fg : Nat} {co : Nat} {th : Int32} {fm : Nat} {cm : Nat} {be : Nat} {dz : Nat → Bool} {mn : Nat → Nat} {st : Nat → Nat} {un : Nat → Nat} {uv : Nat → Nat} {gn : Nat → Nat} {gv : Nat → Nat} {on : Nat → Nat} {tw : Nat → Nat} {bm : Nat → Nat} {g1 : Nat → Nat} {g2 : Nat → Nat} {g3 : Nat → Nat} {sv : Nat → Nat} {fa : Nat → Int32} {fy : Nat → Nat} {bs : Nat → Nat} {cf : Nat → Nat} (R : RLW G h z x mk sa L M F W fn fv fs tn tv ts kd p q bf len ta sp f1 f2 f3 ks ff fg co th fm cm be dz mn st un uv gn gv on tw bm g1 g2 g3 sv fa fy bs cf) : Ct G yX7_pairs cX7_pairs 3 (some .int) 5 0 0 [.ref x] z h (fun a z1 h1 => ∃ (wr : Int32) (fs0 : List Value), a = some (.int wr) ∧ h1 (x + 23) = some (oO 8 fs0) ∧ Ct G yX8_pairs cX8_pairs 4 (some .int) 4 0 0 [.ref (x + 23)] z1 h1 (fun b z2 h2 => b = some (.int wr) ∧ z2 ≤ z + 0 ∧ REL G h2 z2 x)) := by
  obtain ⟨hTv, hW1⟩ := R.wb
  obtain ⟨hP, hM, ⟨fo, hO⟩, ⟨hA, hAz⟩, hI, ⟨hFe, hF60⟩, ⟨hWe, hWt⟩, hB, hK, ⟨hT, hsp⟩, ⟨hcm, hcm20, hcf⟩, hN⟩ := R
  have hmk60 := hI.1.1
  have hav := hI.1.2.1
  have hnd : ∀ r, al sa r = true → (L r).Nodup := fun r hr => (ps_sort hP hr).2.1
  refine Ct.mono (c_PS_pairs hP) ?_
  rintro a z1 h1 ⟨rfl, hf, ta', sp', k1, k2, k3, ks', hv, rfl, hP1⟩
  have hm := hf.mid hA hAz
  have hM1 := hM.at hm
  have hO1 := (hm _ (by omega) (by omega)).trans hO
  refine ⟨_, _, rfl, hM1.1, Ct.mono (c_Md_pairs hI hM1) ?_⟩
  rintro b z2 h2 ⟨rfl, hf2, on', tw', sv', l1, l2, l3, ks2, hv2, h5, hkt, rfl, hM2⟩
  have hP2 := hP1.far hA hf2
  have hO2 := (hf2 _ (by omega)).trans hO1
  obtain ⟨v1, v2, v3⟩ := hv
  have e : ks2 = ks' := hkt.1.trans v3.1.symm
  subst e
  refine ⟨?_, Nat.le_refl _, RLW.ex (M := M) ⟨hP2, hM2, ⟨fo, hO2⟩, ⟨hA, hAz⟩, hI, ⟨hFe, hF60⟩, ⟨hWe, hWt⟩, hB, fun j hj => ⟨(v3.2 j hj).1.trans (hkt.2 j hj).1.symm, (v3.2 j hj).2.1.trans (hkt.2 j hj).2.1.symm, (v3.2 j hj).2.2.trans (hkt.2 j hj).2.2.symm⟩, ⟨fun f hf => (v1 f hf).trans (hv2 f hf).symm, v2.trans h5.symm⟩, ⟨hcm, hcm20, hcf⟩, hN⟩⟩
  rw [v1 0 (by omega), hkt.1]
theorem sim_top {G : Gd} {h : AH} {z x : Nat} {mk : Nat} {sa : Nat → Option Nat} {L : Nat → List Nat} {M : Nat → List Nat} {F : Nat → Nat} {W : Nat → Nat} {fn : Nat → Nat} {fv : Nat → Nat} {fs : Nat} {tn : Nat → Nat} {tv : Nat → Nat} {ts : Nat} {kd : Nat} {p : Nat} {q : Nat} {bf : Nat → Nat} {len : Nat} {ta : Nat → Nat} {sp : Nat} {f1 : Nat → Nat} {f2 : Nat → Nat} {f3 : Nat → Nat} {ks : Nat} {ff : Nat → Nat} {fg : Nat} {co : Nat} {th : Int32} {fm : Nat} {cm : Nat} {be : Nat} {dz : Nat → Bool} {mn : Nat → Nat} {st : Nat → Nat} {un : Nat → Nat} {uv : Nat → Nat} {gn : Nat → Nat} {gv : Nat → Nat} {on : Nat → Nat} {tw : Nat → Nat} {bm : Nat → Nat} {g1 : Nat → Nat} {g2 : Nat → Nat} {g3 : Nat → Nat} {sv : Nat → Nat} {fa : Nat → Int32} {fy : Nat → Nat} {bs : Nat → Nat} {cf : Nat → Nat} (R : RLW G h z x mk sa L M F W fn fv fs tn tv ts kd p q bf len ta sp f1 f2 f3 ks ff fg co th fm cm be dz mn st un uv gn gv on tw bm g1 g2 g3 sv fa fy bs cf) (nv : Int32) : Ct G yX7_top cX7_top 4 (some .int) 5 0 0 [.ref x, .int nv] z h (fun a z1 h1 => ∃ (wr : Int32) (fs0 : List Value), a = some (.int wr) ∧ h1 (x + 23) = some (oO 8 fs0) ∧ Ct G yX8_top cX8_top 5 (some .int) 3 0 0 [.ref (x + 23), .int nv] z1 h1 (fun b z2 h2 => b = some (.int wr) ∧ z2 ≤ z + 0 ∧ REL G h2 z2 x)) := by
  obtain ⟨hTv, hW1⟩ := R.wb
  obtain ⟨hP, hM, ⟨fo, hO⟩, ⟨hA, hAz⟩, hI, ⟨hFe, hF60⟩, ⟨hWe, hWt⟩, hB, hK, ⟨hT, hsp⟩, ⟨hcm, hcm20, hcf⟩, hN⟩ := R
  have hmk60 := hI.1.1
  have hav := hI.1.2.1
  have hnd : ∀ r, al sa r = true → (L r).Nodup := fun r hr => (ps_sort hP hr).2.1
  refine Ct.mono (c_PS_top nv hP) ?_
  rintro a z1 h1 ⟨rfl, hf, hh⟩
  have hm := hf.mid hA hAz
  have hM1 := hM.at hm
  have hO1 := (hm _ (by omega) (by omega)).trans hO
  rcases hh with ⟨e0, rfl, rfl⟩ | ⟨n, k1, k2, k3, ks', rfl, n1, n2, v3, rfl, hP1⟩
  · refine ⟨_, _, rfl, hM1.1, Ct.mono (c_Md_top nv hI hM1) ?_⟩
    rintro b z2 h2 ⟨rfl, hf2, hh2⟩
    have hP1 := hP
    have hP2 := hP1.far hA hf2
    have hO2 := (hf2 _ (by omega)).trans hO1
    rcases hh2 with ⟨-, rfl, hM2⟩ | ⟨n, l1, l2, l3, ks2, rfl, n1, n2, -⟩
    · exact ⟨rfl, Nat.le_refl _, RLW.ex (M := M) ⟨hP2, hM2, ⟨fo, hO2⟩, ⟨hA, hAz⟩, hI, ⟨hFe, hF60⟩, ⟨hWe, hWt⟩, hB, hK, ⟨hT, hsp⟩, ⟨hcm, hcm20, hcf⟩, hN⟩⟩
    · rw [nI_toInt (by omega)] at e0; omega
  · refine ⟨_, _, rfl, hM1.1, Ct.mono (c_Md_top (nI n) hI hM1) ?_⟩
    rintro b z2 h2 ⟨rfl, hf2, hh2⟩
    have hP2 := hP1.far hA hf2
    have hO2 := (hf2 _ (by omega)).trans hO1
    rcases hh2 with ⟨e0, -⟩ | ⟨m, l1, l2, l3, ks2, em, m1, m2, hkt, rfl, hM2⟩
    · rw [nI_toInt (by omega)] at e0; omega
    · have em : m = n := nI_i2 (by omega) (by omega) em.symm
      subst em
      have e : ks2 = ks' := hkt.1.trans v3.1.symm
      subst e
      exact ⟨rfl, Nat.le_refl _, RLW.ex (M := M) ⟨hP2, hM2, ⟨fo, hO2⟩, ⟨hA, hAz⟩, hI, ⟨hFe, hF60⟩, ⟨hWe, hWt⟩, hB, fun j hj => ⟨(v3.2 j hj).1.trans (hkt.2 j hj).1.symm, (v3.2 j hj).2.1.trans (hkt.2 j hj).2.1.symm, (v3.2 j hj).2.2.trans (hkt.2 j hj).2.2.symm⟩, ⟨hT, hsp⟩, ⟨hcm, hcm20, hcf⟩, hN⟩⟩
theorem sim_core {G : Gd} {h : AH} {z x : Nat} {mk : Nat} {sa : Nat → Option Nat} {L : Nat → List Nat} {M : Nat → List Nat} {F : Nat → Nat} {W : Nat → Nat} {fn : Nat → Nat} {fv : Nat → Nat} {fs : Nat} {tn : Nat → Nat} {tv : Nat → Nat} {ts : Nat} {kd : Nat} {p : Nat} {q : Nat} {bf : Nat → Nat} {len : Nat} {ta : Nat → Nat} {sp : Nat} {f1 : Nat → Nat} {f2 : Nat → Nat} {f3 : Nat → Nat} {ks : Nat} {ff : Nat → Nat} {fg : Nat} {co : Nat} {th : Int32} {fm : Nat} {cm : Nat} {be : Nat} {dz : Nat → Bool} {mn : Nat → Nat} {st : Nat → Nat} {un : Nat → Nat} {uv : Nat → Nat} {gn : Nat → Nat} {gv : Nat → Nat} {on : Nat → Nat} {tw : Nat → Nat} {bm : Nat → Nat} {g1 : Nat → Nat} {g2 : Nat → Nat} {g3 : Nat → Nat} {sv : Nat → Nat} {fa : Nat → Int32} {fy : Nat → Nat} {bs : Nat → Nat} {cf : Nat → Nat} (R : RLW G h z x mk sa L M F W fn fv fs tn tv ts kd p q bf len ta sp f1 f2 f3 ks ff fg co th fm cm be dz mn st un uv gn gv on tw bm g1 g2 g3 sv fa fy bs cf) (r : Int32) : Ct G yX7_core cX7_core 4 (some .int) 24 0 0 [.ref x, .int r] z h (fun a z1 h1 => ∃ (wr : Int32) (fs0 : List Value), a = some (.int wr) ∧ h1 (x + 23) = some (oO 8 fs0) ∧ Ct G yX8_core cX8_core 5 (some .int) 24 0 0 [.ref (x + 23), .int r] z1 h1 (fun b z2 h2 => b = some (.int wr) ∧ z2 ≤ z + 0 ∧ REL G h2 z2 x)) := by
  obtain ⟨hTv, hW1⟩ := R.wb
  obtain ⟨hP, hM, ⟨fo, hO⟩, ⟨hA, hAz⟩, hI, ⟨hFe, hF60⟩, ⟨hWe, hWt⟩, hB, hK, ⟨hT, hsp⟩, ⟨hcm, hcm20, hcf⟩, hN⟩ := R
  have hmk60 := hI.1.1
  have hav := hI.1.2.1
  have hnd : ∀ r, al sa r = true → (L r).Nodup := fun r hr => (ps_sort hP hr).2.1
  refine Ct.mono (c_PS_core r hN hP) ?_
  rintro a z1 h1 ⟨y0, rfl, rfl, hf, ff', fg', co', hN1, hP1, hh⟩
  have hm := hf.mid hA hAz
  have hM1 := hM.at hm
  have hO1 := (hm _ (by omega) (by omega)).trans hO
  refine ⟨_, _, rfl, hM1.1, Ct.mono (c_Md_core r hI hM1) ?_⟩
  rintro b z2 h2 ⟨rfl, hf2, w0, fa', fm', cm', be', fy', bs', cf', rfl, hh2, hM2⟩
  have hP2 := hP1.far hA hf2
  have hO2 := (hf2 _ (by omega)).trans hO1
  suffices hq : w0 = y0 ∧ (cm' = (bl co').length ∧ cm' ≤ 20 ∧ ∀ j, j < cm' → cf' j = (bl co').getD j 0) from ⟨by rw [hq.1], Nat.le_refl _, RLW.ex (M := M) ⟨hP2, hM2, ⟨fo, hO2⟩, ⟨hA, hAz⟩, hI, ⟨hFe, hF60⟩, ⟨hWe, hWt⟩, hB, hK, ⟨hT, hsp⟩, hq.2, hN1⟩⟩
  rcases hh with ⟨e0, rfl, rfl⟩ | ⟨k, hk, rfl, hs, hfr, hh⟩
  · rcases hh2 with ⟨-, rfl, rfl, rfl⟩ | ⟨k, rfl, hs, -⟩
    · exact ⟨rfl, hcm, hcm20, hcf⟩
    · exact (one_no (by have := hav k hs; omega) hs (sOf_av.mp e0)).elim
  · rcases hh2 with ⟨e0, -⟩ | ⟨k2, e2, hs2, hd, hh2⟩
    · exact (one_no (by omega) hs e0).elim
    · have : k2 = k := nI_i2 (by have := hav k2 hs2; omega) (by omega) e2.symm
      subst this
      obtain ⟨hff, hsy, hmm, h60⟩ := net_f hP1 hav hfr
      have ef := fm_eq hff hsy hmm hmk60 h60 hk hd
      rw [← ef] at hh
      rcases hh with ⟨n1, rfl, rfl⟩ | ⟨n1, hg, rfl⟩
      · rcases hh2 with ⟨-, rfl, rfl, rfl⟩ | ⟨n2, -⟩
        · exact ⟨rfl, hcm, hcm20, hcf⟩
        · omega
      · rcases hh2 with ⟨n2, -⟩ | ⟨-, ad, C, had, hC, hC20, rfl, hcf2, rfl⟩
        · omega
        · have e1 : bl co' = C.map (fun i => (fmL fa' mk).getD i 0) := by
            rw [hg, hC]
            exact ag_core (fun a b ha hb => by rw [had a b ha hb]; exact (hff _ _).symm)
          have e2 : (bl co').length = C.length := by rw [e1, List.length_map]
          refine ⟨by rw [e2], e2.symm, hC20, fun j hj => ?_⟩
          rw [hcf2 j hj, e1, List.getD_eq_getElem?_getD (l := C.map _), List.getElem?_map, List.getElem?_eq_getElem hj, List.getD_eq_getElem?_getD (l := C), List.getElem?_eq_getElem hj]
          rfl
