/-! class and model, call by call: what changes -/
theorem set_perm (l : Nat) : ∀ (B : List Nat) (j : Nat), j < B.length → (l :: B).Perm (B.getD j 0 :: B.set j l)
  | [], j, h => by simp at h
  | b :: B, 0, _ => List.Perm.swap b l B
  | b :: B, j + 1, h => by
    have ih := set_perm l B j (by simpa using h)
    show (l :: b :: B).Perm (B.getD j 0 :: b :: B.set j l)
    exact (List.Perm.swap b l B).trans ((ih.cons b).trans (List.Perm.swap _ b _))
def swL (A : List Nat) (j : Nat) : List Nat := (A.set j (A.getD (A.length - 1) 0)).take (A.length - 1)
theorem swL_len (A : List Nat) (j : Nat) : (swL A j).length = A.length - 1 := by
  unfold swL
  rw [List.length_take, List.length_set]
  omega
theorem swL_get (A : List Nat) {j i : Nat} (hi : i < A.length - 1) : (swL A j).getD i 0 = if i = j then A.getD (A.length - 1) 0 else A.getD i 0 := by
  unfold swL
  rw [List.getD_eq_getElem?_getD, List.getElem?_take, if_pos hi, List.getElem?_set]
  by_cases e : i = j
  · rw [if_pos e, if_pos e.symm, if_pos (by omega)]; rfl
  · rw [if_neg e, if_neg (fun w => e w.symm), List.getD_eq_getElem?_getD]
theorem swL_perm {A : List Nat} {j : Nat} (hj : j < A.length) : A.Perm (A.getD j 0 :: swL A j) := by
  obtain ⟨B, l, rfl⟩ : ∃ B l, A = B ++ [l] := ⟨A.dropLast, A.getLast (by intro e; rw [e] at hj; simp at hj), (List.dropLast_concat_getLast _).symm⟩
  have hl : (B ++ [l]).length - 1 = B.length := by simp
  have hlast : (B ++ [l]).getD B.length 0 = l := by rw [List.getD_eq_getElem?_getD, List.getElem?_append_right (Nat.le_refl _)]; simp
  unfold swL
  rw [hl, hlast]
  by_cases e : j < B.length
  · rw [List.set_append_left _ _ e, List.take_left' (by rw [List.length_set]), show (B ++ [l]).getD j 0 = B.getD j 0 by rw [List.getD_eq_getElem?_getD, List.getElem?_append_left e, List.getD_eq_getElem?_getD]]
    exact List.perm_append_comm.trans (set_perm l B j e)
  · have e2 : j = B.length := by simp at hj; omega
    subst e2
    rw [hlast, List.set_append_right _ _ (Nat.le_refl _), Nat.sub_self, List.take_left' rfl]
    exact List.perm_append_comm
theorem mdI_set {mk ts fs kd p q : Nat} {av : Nat → Bool} {M L : Nat → List Nat} {W F : Nat → Nat} {dz : Nat → Bool} {mn st un uv gn gv : Nat → Nat} (hI : mdI mk ts fs kd p q av M L W F dz mn st un uv gn gv) {i : Nat} (hi : i < mk) {A L' : List Nat} {st' : Nat → Nat} (hAn : A.Nodup) (hA30 : A.length ≤ 30) (hAv : ∀ v, v ∈ A → v < 1000000)
    (h1 : ∀ j, j < A.length → st' (30 * i + j) = A.getD j 0) (h2 : ∀ e, e < 30 * i ∨ 30 * i + 30 ≤ e → st' e = st e) (hp : L'.Perm A) (hs : ∀ a b, a < b → b < L'.length → kyF F (L'.getD a 0) < kyF F (L'.getD b 0)) : mdI mk ts fs kd p q av (va_up M i A) (va_up L i L') W F dz (va_up mn i A.length) st' un uv gn gv := by
  obtain ⟨i1, i4, i5, i6, i7, i8, i9⟩ := hI
  have hmk := i1.1
  refine ⟨i1, fun r hr => ?_, i5, i6, fun r hr => ?_, i8, fun r hr => ?_⟩
  · by_cases e : r = i
    · subst e
      rw [vu_at, vu_at]
      exact ⟨rfl, hA30, h1, hAn, hAv⟩
    · rw [vu_ne _ _ e, vu_ne _ _ e]
      obtain ⟨j1, j2, j3, j4, j5⟩ := i4 r hr
      refine ⟨j1, j2, fun a ha => ?_, j4, j5⟩
      rw [h2 _ (by
        rcases Nat.lt_or_ge r i with w | w
        · exact Or.inl (by omega)
        · exact Or.inr (by omega))]
      exact j3 a ha
  · by_cases e : r = i
    · subst e
      rw [vu_at, vu_at]
      exact ⟨hp, hs⟩
    · rw [vu_ne _ _ e, vu_ne _ _ e]
      exact i7 r hr
  · rw [vu_ne _ _ (by omega)]
    exact i9 r hr
theorem isN_no {k : Nat} (hk : k < 1000000) (h : isNumB (nI k) = false) : False := by
  unfold isNumB at h
  rw [nI_toInt (by omega)] at h
  exact of_decide_eq_false h (by omega)
theorem tget_val {un uv : Nat → Nat} {i w u : Nat} : ∀ {n : Nat}, (∀ a b, a < b → b < n → un a ≠ un b) → tget un (va_up uv i w) n u = if i < n ∧ u = un i then some w else tget un uv n u
  | 0, _ => by rw [if_neg (by omega)]; rfl
  | n + 1, hd => by
    have ih := tget_val (uv := uv) (i := i) (w := w) (u := u) (n := n) (fun a b h1 h2 => hd a b h1 (by omega))
    show (if un n = u then some (va_up uv i w n) else tget un (va_up uv i w) n u) = _
    by_cases e : un n = u
    · rw [if_pos e]
      by_cases e2 : n = i
      · subst e2
        rw [vu_at, if_pos ⟨by omega, e.symm⟩]
      · rw [vu_ne _ _ e2, if_neg (fun w9 => by
          have h1 : i < n := by omega
          exact hd i n h1 (by omega) (by rw [e]; exact w9.2.symm))]
        show _ = (if un n = u then some (uv n) else tget un uv n u)
        rw [if_pos e]
    · rw [if_neg e, ih]
      show _ = (if i < n + 1 ∧ u = un i then some w else (if un n = u then some (uv n) else tget un uv n u))
      rw [if_neg e]
      by_cases e3 : i < n ∧ u = un i
      · rw [if_pos e3, if_pos ⟨by omega, e3.2⟩]
      · rw [if_neg e3, if_neg (fun w9 => e3 ⟨by
          rcases Nat.lt_or_ge i n with w2 | w2
          · exact w2
          · exfalso
            have : i = n := by omega
            subst this
            exact e w9.2.symm, w9.2⟩)]
theorem tsize {n m : Nat} {fn fv gn gv : Nat → Nat} (h1 : ∀ i j, i < j → j < n → fn i ≠ fn j) (h2 : ∀ i j, i < j → j < m → gn i ≠ gn j) (h : ∀ u, tget fn fv n u = tget gn gv m u) : n = m := by
  have nd : ∀ {n : Nat} {f : Nat → Nat}, (∀ i j, i < j → j < n → f i ≠ f j) → ((List.range n).map f).Nodup := fun {n f} hd => by
    rw [List.Nodup, List.pairwise_map]
    exact List.Pairwise.imp_of_mem (fun {a b} ha hb hab => hd a b hab (List.mem_range.mp hb)) List.pairwise_lt_range
  have mem : ∀ {n : Nat} {f v : Nat → Nat} (u : Nat), u ∈ (List.range n).map f ↔ tget f v n u ≠ none := fun {n f v} u => by
    rw [List.mem_map, Ne, tget_no]
    constructor
    · rintro ⟨a, ha, e⟩ w
      exact w a (List.mem_range.mp ha) e
    · intro w
      apply Classical.byContradiction
      intro w2
      exact w (fun j hj e => w2 ⟨j, List.mem_range.mpr hj, e⟩)
  have hp : ((List.range n).map fn).Perm ((List.range m).map gn) := (List.perm_ext_iff_of_nodup (nd h1) (nd h2)).mpr (fun u => by rw [mem (v := fv) u, mem (v := gv) u, h u])
  have := hp.length_eq
  simpa using this
theorem all_perm {sa : Nat → Option Nat} {L M : Nat → List Nat} (h : ∀ r, al sa r = true → (L r).Perm (M r)) : ∀ n, (allL sa L n).Perm (allM (al sa) M n)
  | 0 => List.Perm.refl _
  | n + 1 => by
    show (allL sa L n ++ (if (sa n).isSome = true then L n else [])).Perm (allM (al sa) M n ++ (if al sa n = true then M n else []))
    refine List.Perm.append (all_perm h n) ?_
    by_cases e : (sa n).isSome = true
    · rw [if_pos e, if_pos (show al sa n = true from e)]
      exact h n e
    · rw [if_neg e, if_neg (show ¬ al sa n = true from e)]
theorem cntO_perm {A B : List Nat} (h : A.Perm B) (u : Nat) : cntO A u = cntO B u := by
  unfold cntO
  rw [h.count_eq u]
  by_cases e : u ∈ A
  · rw [if_pos e, if_pos (h.mem_iff.mp e)]
  · rw [if_neg e, if_neg (fun w => e (h.mem_iff.mpr w))]
theorem sim_put {G : Gd} {h : AH} {z x : Nat} {mk : Nat} {sa : Nat → Option Nat} {L : Nat → List Nat} {M : Nat → List Nat} {F : Nat → Nat} {W : Nat → Nat} {fn : Nat → Nat} {fv : Nat → Nat} {fs : Nat} {tn : Nat → Nat} {tv : Nat → Nat} {ts : Nat} {kd : Nat} {p : Nat} {q : Nat} {bf : Nat → Nat} {len : Nat} {ta : Nat → Nat} {sp : Nat} {f1 : Nat → Nat} {f2 : Nat → Nat} {f3 : Nat → Nat} {ks : Nat} {ff : Nat → Nat} {fg : Nat} {co : Nat} {th : Int32} {fm : Nat} {cm : Nat} {be : Nat} {dz : Nat → Bool} {mn : Nat → Nat} {st : Nat → Nat} {un : Nat → Nat} {uv : Nat → Nat} {gn : Nat → Nat} {gv : Nat → Nat} {on : Nat → Nat} {tw : Nat → Nat} {bm : Nat → Nat} {g1 : Nat → Nat} {g2 : Nat → Nat} {g3 : Nat → Nat} {sv : Nat → Nat} {fa : Nat → Int32} {fy : Nat → Nat} {bs : Nat → Nat} {cf : Nat → Nat} (R : RLW G h z x mk sa L M F W fn fv fs tn tv ts kd p q bf len ta sp f1 f2 f3 ks ff fg co th fm cm be dz mn st un uv gn gv on tw bm g1 g2 g3 sv fa fy bs cf) (r v : Int32) : Ct G yX7_put cX7_put 4 (some .boolean) 3 0 0 [.ref x, .int r, .int v] z h (fun a z1 h1 => ∃ (wr : Int32) (fs0 : List Value), a = some (.int wr) ∧ h1 (x + 23) = some (oO 8 fs0) ∧ Ct G yX8_put cX8_put 3 (some .boolean) 2 0 0 [.ref (x + 23), .int r, .int v] z1 h1 (fun b z2 h2 => b = some (.int wr) ∧ z2 ≤ z + 0 ∧ REL G h2 z2 x)) := by
  obtain ⟨hTv, hW1⟩ := R.wb
  obtain ⟨hP, hM, ⟨fo, hO⟩, ⟨hA, hAz⟩, hI, ⟨hFe, hF60⟩, ⟨hWe, hWt⟩, hB, hK, ⟨hT, hsp⟩, ⟨hcm, hcm20, hcf⟩, hN⟩ := R
  have hmk60 := hI.1.1
  have hav := hI.1.2.1
  have hnd : ∀ r, al sa r = true → (L r).Nodup := fun r hr => (ps_sort hP hr).2.1
  have hpm : ∀ r, al sa r = true → (L r).Perm (M r) := fun r hr => (hI.2.2.2.2.1 r hr).1
  refine Ct.mono (c_PS_put r v hFe hF60 hWe hW1 hP) ?_
  rintro a z1 h1 ⟨rfl, hf, hh⟩
  have hm := hf.mid hA hAz
  have hM1 := hM.at hm
  have hO1 := (hm _ (by omega) (by omega)).trans hO
  rcases hh with ⟨e0, rfl, rfl⟩ | ⟨i, k, L', hi, rfl, hs, hk, rfl, hkn, hl30, hLp, rfl, hP1⟩
  · refine ⟨_, _, rfl, hM1.1, Ct.mono (c_Md_put r v hI hM1) ?_⟩
    rintro b z2 h2 ⟨rfl, hf2, hh2⟩
    have hP1 := hP
    have hP2 := hP1.far hA hf2
    have hO2 := (hf2 _ (by omega)).trans hO1
    rcases hh2 with ⟨-, rfl, hM2⟩ | ⟨i, k, rfl, hs, hk, rfl, hkn, hl30, -⟩
    · exact ⟨rfl, Nat.le_refl _, RLW.ex (M := M) ⟨hP2, hM2, ⟨fo, hO2⟩, ⟨hA, hAz⟩, hI, ⟨hFe, hF60⟩, ⟨hWe, hWt⟩, hB, hK, ⟨hT, hsp⟩, ⟨hcm, hcm20, hcf⟩, hN⟩⟩
    · exfalso
      have hi := hav i hs
      rcases e0 with e0 | e0 | ⟨i2, k2, g1, g2, g3, g4, g5⟩
      · exact one_no (by omega) hs (sOf_av.mp e0)
      · exact isN_no hk e0
      · have : i2 = i := nI_i2 (by omega) (by omega) g2.symm
        subst this
        rcases g5 with g5 | g5
        · have g6 := (ps_sort hP hs).2.2.1 k2 g5
          have : k2 = k := nI_i2 (by omega) (by omega) g4.symm
          subst this
          exact hkn ((hpm i2 hs).mem_iff.mp g5)
        · have := (hpm i2 hs).length_eq; omega
  · refine ⟨_, _, rfl, hM1.1, Ct.mono (c_Md_put (nI i) (nI k) hI hM1) ?_⟩
    rintro b z2 h2 ⟨rfl, hf2, hh2⟩
    have hP2 := hP1.far hA hf2
    have hO2 := (hf2 _ (by omega)).trans hO1
    rcases hh2 with ⟨e0, -⟩ | ⟨i2, k2, e1, hs2, hk2, e2, hkn2, hl2, rfl, hM2⟩
    · exfalso
      rcases e0 with e0 | e0 | ⟨i2, k2, g2, g3, g4, g6, g5⟩
      · exact one_no (by omega) hs e0
      · exact isN_no hk e0
      · have : i2 = i := nI_i2 (by have := hav i2 g3; omega) (by omega) g2.symm
        subst this
        have : k2 = k := nI_i2 (by omega) (by omega) g6.symm
        subst this
        rcases g5 with g5 | g5
        · exact hkn ((hpm i2 hs).mem_iff.mpr g5)
        · have := (hpm i2 hs).length_eq; omega
    · have e1 : i2 = i := nI_i2 (by have := hav i2 hs2; omega) (by omega) e1.symm
      have e2 : k2 = k := nI_i2 (by omega) (by omega) e2.symm
      subst e1; subst e2
      have hso := hI.2.1 i2 (by omega)
      have hsort := (ps_sort hP2 hs).1
      rw [vu_at] at hsort
      refine ⟨rfl, Nat.le_refl _, RLW.ex (M := va_up M i2 (M i2 ++ [k2])) ⟨hP2, hM2, ⟨fo, hO2⟩, ⟨hA, hAz⟩, ?_, ⟨hFe, hF60⟩, ⟨hWe, hWt⟩, hB, hK, ⟨hT, hsp⟩, ⟨hcm, hcm20, hcf⟩, hN.one (fun r _ => rfl) (fun r e => vu_ne _ _ e)⟩⟩
      have hlen : (M i2 ++ [k2]).length = (M i2).length + 1 := by simp
      rw [← hlen]
      refine mdI_set hI hi ?_ (by omega) (fun v hv => ?_) (fun j hj => ?_) (fun e he => vu_ne _ _ (by omega)) (hLp.trans (((hpm i2 hs).cons k2).trans (List.perm_append_comm (l₁ := [k2]) (l₂ := M i2)))) hsort
      · exact (List.perm_append_comm (l₁ := M i2) (l₂ := [k2])).nodup_iff.mpr (List.nodup_cons.mpr ⟨hkn2, hso.2.2.2.1⟩)
      · rcases List.mem_append.mp hv with g | g
        · exact hso.2.2.2.2 v g
        · rw [List.mem_singleton.mp g]; exact hk
      · by_cases e : j = (M i2).length
        · subst e
          rw [vu_at, List.getD_eq_getElem?_getD, List.getElem?_append_right (Nat.le_refl _)]; simp
        · rw [vu_ne _ _ (by omega), hso.2.2.1 j (by omega), List.getD_eq_getElem?_getD, List.getD_eq_getElem?_getD, List.getElem?_append_left (by omega)]
theorem sim_take {G : Gd} {h : AH} {z x : Nat} {mk : Nat} {sa : Nat → Option Nat} {L : Nat → List Nat} {M : Nat → List Nat} {F : Nat → Nat} {W : Nat → Nat} {fn : Nat → Nat} {fv : Nat → Nat} {fs : Nat} {tn : Nat → Nat} {tv : Nat → Nat} {ts : Nat} {kd : Nat} {p : Nat} {q : Nat} {bf : Nat → Nat} {len : Nat} {ta : Nat → Nat} {sp : Nat} {f1 : Nat → Nat} {f2 : Nat → Nat} {f3 : Nat → Nat} {ks : Nat} {ff : Nat → Nat} {fg : Nat} {co : Nat} {th : Int32} {fm : Nat} {cm : Nat} {be : Nat} {dz : Nat → Bool} {mn : Nat → Nat} {st : Nat → Nat} {un : Nat → Nat} {uv : Nat → Nat} {gn : Nat → Nat} {gv : Nat → Nat} {on : Nat → Nat} {tw : Nat → Nat} {bm : Nat → Nat} {g1 : Nat → Nat} {g2 : Nat → Nat} {g3 : Nat → Nat} {sv : Nat → Nat} {fa : Nat → Int32} {fy : Nat → Nat} {bs : Nat → Nat} {cf : Nat → Nat} (R : RLW G h z x mk sa L M F W fn fv fs tn tv ts kd p q bf len ta sp f1 f2 f3 ks ff fg co th fm cm be dz mn st un uv gn gv on tw bm g1 g2 g3 sv fa fy bs cf) (r v : Int32) : Ct G yX7_take cX7_take 4 (some .boolean) 3 0 0 [.ref x, .int r, .int v] z h (fun a z1 h1 => ∃ (wr : Int32) (fs0 : List Value), a = some (.int wr) ∧ h1 (x + 23) = some (oO 8 fs0) ∧ Ct G yX8_take cX8_take 3 (some .boolean) 2 0 0 [.ref (x + 23), .int r, .int v] z1 h1 (fun b z2 h2 => b = some (.int wr) ∧ z2 ≤ z + 0 ∧ REL G h2 z2 x)) := by
  obtain ⟨hTv, hW1⟩ := R.wb
  obtain ⟨hP, hM, ⟨fo, hO⟩, ⟨hA, hAz⟩, hI, ⟨hFe, hF60⟩, ⟨hWe, hWt⟩, hB, hK, ⟨hT, hsp⟩, ⟨hcm, hcm20, hcf⟩, hN⟩ := R
  have hmk60 := hI.1.1
  have hav := hI.1.2.1
  have hnd : ∀ r, al sa r = true → (L r).Nodup := fun r hr => (ps_sort hP hr).2.1
  have hpm : ∀ r, al sa r = true → (L r).Perm (M r) := fun r hr => (hI.2.2.2.2.1 r hr).1
  refine Ct.mono (c_PS_take r v hFe hF60 hWe hW1 hP) ?_
  rintro a z1 h1 ⟨rfl, hf, hh⟩
  have hm := hf.mid hA hAz
  have hM1 := hM.at hm
  have hO1 := (hm _ (by omega) (by omega)).trans hO
  have gmem : ∀ {A : List Nat} {j : Nat}, j < A.length → A.getD j 0 ∈ A := fun {A j} hj => by
    rw [List.getD_eq_getElem?_getD, List.getElem?_eq_getElem hj]; exact List.getElem_mem hj
  rcases hh with ⟨e0, rfl, rfl⟩ | ⟨i, k, L', hi, rfl, hs, hk, rfl, hLp, rfl, hP1⟩
  · refine ⟨_, _, rfl, hM1.1, Ct.mono (c_Md_take r v hI hM1) ?_⟩
    rintro b z2 h2 ⟨rfl, hf2, hh2⟩
    have hP1 := hP
    have hP2 := hP1.far hA hf2
    have hO2 := (hf2 _ (by omega)).trans hO1
    rcases hh2 with ⟨-, rfl, hM2⟩ | ⟨i, j, rfl, hs, hj, rfl, -⟩
    · exact ⟨rfl, Nat.le_refl _, RLW.ex (M := M) ⟨hP2, hM2, ⟨fo, hO2⟩, ⟨hA, hAz⟩, hI, ⟨hFe, hF60⟩, ⟨hWe, hWt⟩, hB, hK, ⟨hT, hsp⟩, ⟨hcm, hcm20, hcf⟩, hN⟩⟩
    · exfalso
      have hi := hav i hs
      have hv := (hI.2.1 i (by omega)).2.2.2.2 _ (gmem hj)
      rcases e0 with e0 | e0 | ⟨i2, k2, g1, g2, g3, g4, g5, g6⟩
      · exact one_no (by omega) hs (sOf_av.mp e0)
      · exact isN_no hv e0
      · have : i2 = i := nI_i2 (by omega) (by omega) g2.symm
        subst this
        have : k2 = (M i2).getD j 0 := nI_i2 (by omega) (by omega) g4.symm
        rw [this] at g6
        exact g6 ((hpm i2 hs).mem_iff.mpr (gmem hj))
  · refine ⟨_, _, rfl, hM1.1, Ct.mono (c_Md_take (nI i) (nI k) hI hM1) ?_⟩
    rintro b z2 h2 ⟨rfl, hf2, hh2⟩
    have hP2 := hP1.far hA hf2
    have hO2 := (hf2 _ (by omega)).trans hO1
    have hkL : k ∈ L i := hLp.mem_iff.mpr List.mem_cons_self
    rcases hh2 with ⟨e0, -⟩ | ⟨i2, j, e1, hs2, hj, e2, rfl, hM2⟩
    · exfalso
      rcases e0 with e0 | ⟨i2, g2, g3, g4⟩
      · exact one_no (by omega) hs e0
      · have : i2 = i := nI_i2 (by have := hav i2 g3; omega) (by omega) g2.symm
        subst this
        exact g4 k ((hpm i2 hs).mem_iff.mp hkL) rfl
    · have e1 : i2 = i := nI_i2 (by have := hav i2 hs2; omega) (by omega) e1.symm
      subst e1
      have hso := hI.2.1 i2 (by omega)
      have hv := hso.2.2.2.2 _ (gmem hj)
      have e2 : k = (M i2).getD j 0 := nI_i2 (by omega) (by omega) e2
      have hsort := (ps_sort hP2 hs).1
      rw [vu_at] at hsort
      have hsw := swL_perm hj
      have hnd2 := hsw.nodup_iff.mp hso.2.2.2.1
      have hlen := swL_len (M i2) j
      refine ⟨rfl, Nat.le_refl _, RLW.ex (M := va_up M i2 (swL (M i2) j)) ⟨hP2, hM2, ⟨fo, hO2⟩, ⟨hA, hAz⟩, ?_, ⟨hFe, hF60⟩, ⟨hWe, hWt⟩, hB, hK, ⟨hT, hsp⟩, ⟨hcm, hcm20, hcf⟩, hN.one (fun r _ => rfl) (fun r e => vu_ne _ _ e)⟩⟩
      have key : mdI mk ts fs kd p q (al sa) (va_up M i2 (swL (M i2) j)) (va_up L i2 L') W F dz (va_up mn i2 (swL (M i2) j).length) (va_up st (30 * i2 + j) ((M i2).getD ((M i2).length - 1) 0)) un uv gn gv := by
        refine mdI_set hI hi (List.nodup_cons.mp hnd2).2 (by omega) (fun v hv => hso.2.2.2.2 v (hsw.mem_iff.mpr (List.mem_cons_of_mem _ hv))) (fun a ha => ?_) (fun e he => vu_ne _ _ (by omega)) ?_ hsort
        · rw [swL_get (M i2) (by omega)]
          by_cases e : a = j
          · rw [e, vu_at, if_pos rfl]
          · rw [vu_ne _ _ (by omega), if_neg e, hso.2.2.1 a (by omega)]
        · have h9 := hLp.symm.trans ((hpm i2 hs).trans hsw)
          rw [e2] at h9
          exact List.Perm.cons_inv h9
      rw [hlen] at key
      exact key
theorem sim_weight {G : Gd} {h : AH} {z x : Nat} {mk : Nat} {sa : Nat → Option Nat} {L : Nat → List Nat} {M : Nat → List Nat} {F : Nat → Nat} {W : Nat → Nat} {fn : Nat → Nat} {fv : Nat → Nat} {fs : Nat} {tn : Nat → Nat} {tv : Nat → Nat} {ts : Nat} {kd : Nat} {p : Nat} {q : Nat} {bf : Nat → Nat} {len : Nat} {ta : Nat → Nat} {sp : Nat} {f1 : Nat → Nat} {f2 : Nat → Nat} {f3 : Nat → Nat} {ks : Nat} {ff : Nat → Nat} {fg : Nat} {co : Nat} {th : Int32} {fm : Nat} {cm : Nat} {be : Nat} {dz : Nat → Bool} {mn : Nat → Nat} {st : Nat → Nat} {un : Nat → Nat} {uv : Nat → Nat} {gn : Nat → Nat} {gv : Nat → Nat} {on : Nat → Nat} {tw : Nat → Nat} {bm : Nat → Nat} {g1 : Nat → Nat} {g2 : Nat → Nat} {g3 : Nat → Nat} {sv : Nat → Nat} {fa : Nat → Int32} {fy : Nat → Nat} {bs : Nat → Nat} {cf : Nat → Nat} (R : RLW G h z x mk sa L M F W fn fv fs tn tv ts kd p q bf len ta sp f1 f2 f3 ks ff fg co th fm cm be dz mn st un uv gn gv on tw bm g1 g2 g3 sv fa fy bs cf) (v w : Int32) : Ct G yX7_weight cX7_weight 3 (some .boolean) 4 0 0 [.ref x, .int v, .int w] z h (fun a z1 h1 => ∃ (wr : Int32) (fs0 : List Value), a = some (.int wr) ∧ h1 (x + 23) = some (oO 8 fs0) ∧ Ct G yX8_weight cX8_weight 4 (some .boolean) 2 0 0 [.ref (x + 23), .int v, .int w] z1 h1 (fun b z2 h2 => b = some (.int wr) ∧ z2 ≤ z + 0 ∧ REL G h2 z2 x)) := by
  obtain ⟨hTv, hW1⟩ := R.wb
  obtain ⟨hP, hM, ⟨fo, hO⟩, ⟨hA, hAz⟩, hI, ⟨hFe, hF60⟩, ⟨hWe, hWt⟩, hB, hK, ⟨hT, hsp⟩, ⟨hcm, hcm20, hcf⟩, hN⟩ := R
  have hmk60 := hI.1.1
  have hav := hI.1.2.1
  have hnd : ∀ r, al sa r = true → (L r).Nodup := fun r hr => (ps_sort hP hr).2.1
  refine Ct.mono (c_PS_weight v w hTv hP) ?_
  rintro a z1 h1 ⟨rfl, hf, hh⟩
  have hm := hf.mid hA hAz
  have hM1 := hM.at hm
  have hO1 := (hm _ (by omega) (by omega)).trans hO
  rcases hh with ⟨e0, rfl, hP1⟩ | ⟨k, wn, tn', tv', ts', fg', hk, rfl, rfl, w1, w2, ht, hts, hfg, hts2, rfl, hP1⟩
  · refine ⟨_, _, rfl, hM1.1, Ct.mono (c_Md_weight v w hI hM1) ?_⟩
    rintro b z2 h2 ⟨rfl, hf2, hh2⟩
    have hP2 := hP1.far hA hf2
    have hO2 := (hf2 _ (by omega)).trans hO1
    rcases hh2 with ⟨-, rfl, hM2⟩ | ⟨k, wn, i, hk, rfl, rfl, w1, w2, hi, hj, rfl, hh2⟩
    · exact ⟨rfl, Nat.le_refl _, RLW.ex (M := M) ⟨hP2, hM2, ⟨fo, hO2⟩, ⟨hA, hAz⟩, hI, ⟨hFe, hF60⟩, ⟨hWe, hWt⟩, hB, hK, ⟨hT, hsp⟩, ⟨hcm, hcm20, hcf⟩, hN⟩⟩
    · exfalso
      rcases e0 with e0 | e0 | ⟨k2, g1, g2, g3, g4⟩
      · exact isN_no hk e0
      · rw [nI_toInt (by omega)] at e0; omega
      · have : k2 = k := nI_i2 (by omega) (by omega) g2.symm
        subst this
        rw [hWt] at g3
        have g5 := tget_no.mp g3
        rcases hh2 with ⟨q1, q2, -⟩ | ⟨q1, -⟩
        · exact g5 i q1 q2
        · omega
  · refine ⟨_, _, rfl, hM1.1, Ct.mono (c_Md_weight (nI k) (nI wn) hI hM1) ?_⟩
    rintro b z2 h2 ⟨rfl, hf2, hh2⟩
    have hP2 := hP1.far hA hf2
    have hO2 := (hf2 _ (by omega)).trans hO1
    rcases hh2 with ⟨e0, -⟩ | ⟨k2, wn2, i, hk2, e1, e2, w3, w4, hi, hj, rfl, hh2⟩
    · exfalso
      rcases e0 with e0 | e0 | ⟨k2, g1, g2, g3, g4⟩
      · exact isN_no hk e0
      · rw [nI_toInt (by omega)] at e0; omega
      · have : k2 = k := nI_i2 (by omega) (by omega) g2.symm
        subst this
        have := hts2 (by rw [hWt]; exact tget_no.mpr g3)
        omega
    · have e1 : k2 = k := nI_i2 (by omega) (by omega) e1.symm
      have e2 : wn2 = wn := nI_i2 (by omega) (by omega) e2.symm
      subst e1; subst e2
      obtain ⟨i1, i4, ⟨t1, t2, t3, t4, t5⟩, i6, i7, i8, i9⟩ := hI
      rcases hh2 with ⟨q1, q2, hM2⟩ | ⟨rfl, hM2⟩
      · have hne : tget tn tv ts k2 ≠ none := fun w9 => by
          rw [hWt] at w9
          exact tget_no.mp w9 i q1 q2
        rw [if_neg hne] at hts
        subst hts
        have hun : va_up un i k2 = un := by
          funext a
          by_cases e : a = i
          · rw [e, vu_at, q2]
          · rw [vu_ne _ _ e]
        rw [hun] at hM2
        have hag : ∀ u, tget tn' tv' ts' u = tget un (va_up uv i wn2) ts' u := fun u => by
          rw [ht u, tget_val t4, q2, hWt u]
          by_cases e : u = k2
          · rw [if_pos e, if_pos ⟨q1, e⟩]
          · rw [if_neg e, if_neg (fun w9 => e w9.2)]
        refine ⟨rfl, Nat.le_refl _, RLW.ex (M := M) ⟨hP2, hM2, ⟨fo, hO2⟩, ⟨hA, hAz⟩, ?_, ⟨hFe, hF60⟩, ⟨rfl, hag⟩, hB, hK, ⟨hT, hsp⟩, ⟨hcm, hcm20, hcf⟩, hN.all hfg⟩⟩
        refine ⟨i1, i4, ⟨t1, wtF_eq hag, t3, t4, fun a ha => ?_⟩, i6, i7, i8, i9⟩
        by_cases e : a = i
        · rw [e, vu_at]; exact ⟨w1, w2⟩
        · rw [vu_ne _ _ e]; exact t5 a ha
      · have hno : tget tn tv i k2 = none := by rw [hWt]; exact tget_no.mpr hj
        rw [if_pos hno] at hts
        subst hts
        have hag : ∀ u, tget tn' tv' (i + 1) u = tget (va_up un i k2) (va_up uv i wn2) (i + 1) u := fun u => by
          rw [ht u]
          show _ = (if va_up un i k2 i = u then some (va_up uv i wn2 i) else tget (va_up un i k2) (va_up uv i wn2) i u)
          rw [vu_at, vu_at, tget_congr (fun j hj => ⟨vu_ne _ _ (by omega), vu_ne _ _ (by omega)⟩), hWt u]
          by_cases e : u = k2
          · rw [if_pos e, if_pos e.symm]
          · rw [if_neg e, if_neg (fun w9 => e w9.symm)]
        refine ⟨rfl, Nat.le_refl _, RLW.ex (M := M) ⟨hP2, hM2, ⟨fo, hO2⟩, ⟨hA, hAz⟩, ?_, ⟨hFe, hF60⟩, ⟨rfl, hag⟩, hB, hK, ⟨hT, hsp⟩, ⟨hcm, hcm20, hcf⟩, hN.all hfg⟩⟩
        refine ⟨i1, i4, ⟨by omega, wtF_eq hag, fun a ha => ?_, fun a b hab hb => ?_, fun a ha => ?_⟩, i6, i7, i8, i9⟩
        · by_cases e : a = i
          · rw [e, vu_at]; exact hk
          · rw [vu_ne _ _ e]; exact t3 a (by omega)
        · by_cases e : b = i
          · rw [e, vu_at, vu_ne _ _ (by omega)]; exact hj a (by omega)
          · rw [vu_ne _ _ e, vu_ne _ _ (by omega)]; exact t4 a b hab (by omega)
        · by_cases e : a = i
          · rw [e, vu_at]; exact ⟨w1, w2⟩
          · rw [vu_ne _ _ e]; exact t5 a (by omega)
theorem pcN_ext {bf bm : Nat → Nat} {q len n : Nat} (hq : q = 1 ∨ q = 2) (hn : n + q ≤ len) (h : ∀ j, j < len → bm j = bf j) : pcN bm q n = pcN bf q n := by
  unfold pcN
  rcases hq with rfl | rfl
  · rw [if_pos rfl, if_pos rfl, h n (by omega)]
  · rw [if_neg (by omega), if_neg (by omega), h n (by omega), h (n + 1) (by omega)]
theorem cnL_ext {bf bm : Nat → Nat} {q len i : Nat} (hq : q = 1 ∨ q = 2) (hi : i + q ≤ len) (h : ∀ j, j < len → bm j = bf j) : ∀ {n : Nat}, n ≤ i → cnL bm q i n = cnL bf q i n
  | 0, _ => rfl
  | n + 1, hn => by
    show cnL bm q i n + (if pcN bm q n = pcN bm q i then 1 else 0) = cnL bf q i n + (if pcN bf q n = pcN bf q i then 1 else 0)
    rw [cnL_ext hq hi h (by omega), pcN_ext hq (by omega) h, pcN_ext hq hi h]
theorem tnL_ext {bf bm : Nat → Nat} {q len : Nat} (hq : q = 1 ∨ q = 2) (h : ∀ j, j < len → bm j = bf j) : ∀ {n : Nat}, n + q ≤ len + 1 → tnL bm q n = tnL bf q n
  | 0, _ => rfl
  | n + 1, hn => by
    show tnL bm q n ++ (if cnL bm q n n < 8 then [8 * pcN bm q n + cnL bm q n n] else []) = tnL bf q n ++ (if cnL bf q n n < 8 then [8 * pcN bf q n + cnL bf q n n] else [])
    rw [tnL_ext hq h (by omega), cnL_ext hq (by omega) h (Nat.le_refl n), pcN_ext hq (by omega) h]
theorem sim_text {G : Gd} {h : AH} {z x : Nat} {mk : Nat} {sa : Nat → Option Nat} {L : Nat → List Nat} {M : Nat → List Nat} {F : Nat → Nat} {W : Nat → Nat} {fn : Nat → Nat} {fv : Nat → Nat} {fs : Nat} {tn : Nat → Nat} {tv : Nat → Nat} {ts : Nat} {kd : Nat} {p : Nat} {q : Nat} {bf : Nat → Nat} {len : Nat} {ta : Nat → Nat} {sp : Nat} {f1 : Nat → Nat} {f2 : Nat → Nat} {f3 : Nat → Nat} {ks : Nat} {ff : Nat → Nat} {fg : Nat} {co : Nat} {th : Int32} {fm : Nat} {cm : Nat} {be : Nat} {dz : Nat → Bool} {mn : Nat → Nat} {st : Nat → Nat} {un : Nat → Nat} {uv : Nat → Nat} {gn : Nat → Nat} {gv : Nat → Nat} {on : Nat → Nat} {tw : Nat → Nat} {bm : Nat → Nat} {g1 : Nat → Nat} {g2 : Nat → Nat} {g3 : Nat → Nat} {sv : Nat → Nat} {fa : Nat → Int32} {fy : Nat → Nat} {bs : Nat → Nat} {cf : Nat → Nat} (R : RLW G h z x mk sa L M F W fn fv fs tn tv ts kd p q bf len ta sp f1 f2 f3 ks ff fg co th fm cm be dz mn st un uv gn gv on tw bm g1 g2 g3 sv fa fy bs cf) (r qv : Int32) : Ct G yX7_text cX7_text 7 (some .int) 3 0 0 [.ref x, .int r, .int qv] z h (fun a z1 h1 => ∃ (wr : Int32) (fs0 : List Value), a = some (.int wr) ∧ h1 (x + 23) = some (oO 8 fs0) ∧ Ct G yX8_text cX8_text 8 (some .int) 2 0 0 [.ref (x + 23), .int r, .int qv] z1 h1 (fun b z2 h2 => b = some (.int wr) ∧ z2 ≤ z + 0 ∧ REL G h2 z2 x)) := by
  obtain ⟨hTv, hW1⟩ := R.wb
  obtain ⟨hP, hM, ⟨fo, hO⟩, ⟨hA, hAz⟩, hI, ⟨hFe, hF60⟩, ⟨hWe, hWt⟩, hB, hK, ⟨hT, hsp⟩, ⟨hcm, hcm20, hcf⟩, hN⟩ := R
  have hmk60 := hI.1.1
  have hav := hI.1.2.1
  have hnd : ∀ r, al sa r = true → (L r).Nodup := fun r hr => (ps_sort hP hr).2.1
  have hpm : ∀ r, al sa r = true → (L r).Perm (M r) := fun r hr => (hI.2.2.2.2.1 r hr).1
  have hPO : tpOk bf len := hP.2.2.2.2.1.2
  have hPM : tpOk bm len := ⟨hPO.1, fun j hj => by rw [hB j hj]; exact hPO.2 j hj⟩
  have htn : ∀ qq, (qq = 1 ∨ qq = 2) → tnL bm qq (len + 1 - qq) = tnL bf qq (len + 1 - qq) := fun qq hq => by
    rcases Nat.lt_or_ge (len + 1) qq with w | w
    · rw [show len + 1 - qq = 0 by omega]; rfl
    · exact tnL_ext hq hB (by omega)
  refine Ct.mono (c_PS_text r qv hFe hF60 hWe hW1 hP) ?_
  rintro a z1 h1 ⟨rfl, hf, hh⟩
  have hm := hf.mid hA hAz
  have hM1 := hM.at hm
  have hO1 := (hm _ (by omega) (by omega)).trans hO
  rcases hh with ⟨e0, rfl, rfl⟩ | ⟨i, qq, hi, rfl, hs, rfl, hq, hh⟩
  · refine ⟨_, _, rfl, hM1.1, Ct.mono (c_Md_text r qv hPM hI hM1) ?_⟩
    rintro b z2 h2 ⟨rfl, hf2, hh2⟩
    have hP1 := hP
    have hP2 := hP1.far hA hf2
    have hO2 := (hf2 _ (by omega)).trans hO1
    rcases hh2 with ⟨-, rfl, hM2⟩ | ⟨i, qq, rfl, hs, rfl, hq, -⟩
    · exact ⟨rfl, Nat.le_refl _, RLW.ex (M := M) ⟨hP2, hM2, ⟨fo, hO2⟩, ⟨hA, hAz⟩, hI, ⟨hFe, hF60⟩, ⟨hWe, hWt⟩, hB, hK, ⟨hT, hsp⟩, ⟨hcm, hcm20, hcf⟩, hN⟩⟩
    · exfalso
      rcases e0 with e0 | e0
      · exact one_no (by have := hav i hs; omega) hs (sOf_av.mp e0)
      · rw [nI_toInt (by omega)] at e0; omega
  · have hw : ∃ w : Int32, a = some (.int w) := by
      rcases hh with ⟨-, e, -⟩ | ⟨-, e, -⟩
      · exact ⟨_, e⟩
      · exact ⟨_, e⟩
    obtain ⟨w0, rfl⟩ := hw
    refine ⟨_, _, rfl, hM1.1, Ct.mono (c_Md_text (nI i) (nI qq) hPM hI hM1) ?_⟩
    rintro b z2 h2 ⟨rfl, hf2, hh2⟩
    rcases hh2 with ⟨e0, -⟩ | ⟨i2, q2, e1, hs2, e2, hq2, hh2⟩
    · exfalso
      rcases e0 with e0 | e0
      · exact one_no (by omega) hs e0
      · rw [nI_toInt (by omega)] at e0; omega
    · have e1 : i2 = i := nI_i2 (by have := hav i2 hs2; omega) (by omega) e1.symm
      have e2 : q2 = qq := nI_i2 (by omega) (by omega) e2.symm
      subst e1; subst e2
      rw [htn q2 hq] at hh2
      rcases hh with ⟨n1, e3, hP1⟩ | ⟨n1, e3, L', hLp, hP1⟩
      · rcases hh2 with ⟨-, rfl, hM2⟩ | ⟨n2, -⟩
        · have hP2 := hP1.far hA hf2
          have hO2 := (hf2 _ (by omega)).trans hO1
          exact ⟨e3.symm, Nat.le_refl _, RLW.ex (M := M) ⟨hP2, hM2, ⟨fo, hO2⟩, ⟨hA, hAz⟩, hI, ⟨hFe, hF60⟩, ⟨hWe, hWt⟩, hB, hK, ⟨hT, hsp⟩, ⟨hcm, hcm20, hcf⟩, hN⟩⟩
        · omega
      · rcases hh2 with ⟨n2, -⟩ | ⟨-, rfl, st', s1, s2, hM2⟩
        · omega
        · have hP2 := hP1.far hA hf2
          have hO2 := (hf2 _ (by omega)).trans hO1
          have hsort := ps_sort hP2 hs
          rw [vu_at] at hsort
          refine ⟨e3.symm, Nat.le_refl _, RLW.ex (M := va_up M i2 (tnL bf q2 (len + 1 - q2))) ⟨hP2, hM2, ⟨fo, hO2⟩, ⟨hA, hAz⟩, ?_, ⟨hFe, hF60⟩, ⟨hWe, hWt⟩, fun j hj => by omega, hK, ⟨hT, hsp⟩, ⟨hcm, hcm20, hcf⟩, hN.one (fun r _ => rfl) (fun r e => vu_ne _ _ e)⟩⟩
          exact mdI_set hI hi (hLp.nodup_iff.mp hsort.2.1) n1 (fun v hv => hsort.2.2.1 v (hLp.mem_iff.mpr hv)) s1 s2 hLp hsort.1
theorem sim_order {G : Gd} {h : AH} {z x : Nat} {mk : Nat} {sa : Nat → Option Nat} {L : Nat → List Nat} {M : Nat → List Nat} {F : Nat → Nat} {W : Nat → Nat} {fn : Nat → Nat} {fv : Nat → Nat} {fs : Nat} {tn : Nat → Nat} {tv : Nat → Nat} {ts : Nat} {kd : Nat} {p : Nat} {q : Nat} {bf : Nat → Nat} {len : Nat} {ta : Nat → Nat} {sp : Nat} {f1 : Nat → Nat} {f2 : Nat → Nat} {f3 : Nat → Nat} {ks : Nat} {ff : Nat → Nat} {fg : Nat} {co : Nat} {th : Int32} {fm : Nat} {cm : Nat} {be : Nat} {dz : Nat → Bool} {mn : Nat → Nat} {st : Nat → Nat} {un : Nat → Nat} {uv : Nat → Nat} {gn : Nat → Nat} {gv : Nat → Nat} {on : Nat → Nat} {tw : Nat → Nat} {bm : Nat → Nat} {g1 : Nat → Nat} {g2 : Nat → Nat} {g3 : Nat → Nat} {sv : Nat → Nat} {fa : Nat → Int32} {fy : Nat → Nat} {bs : Nat → Nat} {cf : Nat → Nat} (R : RLW G h z x mk sa L M F W fn fv fs tn tv ts kd p q bf len ta sp f1 f2 f3 ks ff fg co th fm cm be dz mn st un uv gn gv on tw bm g1 g2 g3 sv fa fy bs cf) : Ct G yX7_order cX7_order 4 (some .int) 4 0 0 [.ref x] z h (fun a z1 h1 => ∃ (wr : Int32) (fs0 : List Value), a = some (.int wr) ∧ h1 (x + 23) = some (oO 8 fs0) ∧ Ct G yX8_order cX8_order 5 (some .int) 0 0 0 [.ref (x + 23)] z1 h1 (fun b z2 h2 => b = some (.int wr) ∧ z2 ≤ z + 0 ∧ REL G h2 z2 x)) := by
  obtain ⟨hTv, hW1⟩ := R.wb
  obtain ⟨hP, hM, ⟨fo, hO⟩, ⟨hA, hAz⟩, hI, ⟨hFe, hF60⟩, ⟨hWe, hWt⟩, hB, hK, ⟨hT, hsp⟩, ⟨hcm, hcm20, hcf⟩, hN⟩ := R
  have hmk60 := hI.1.1
  have hav := hI.1.2.1
  have hnd : ∀ r, al sa r = true → (L r).Nodup := fun r hr => (ps_sort hP hr).2.1
  have hpm : ∀ r, al sa r = true → (L r).Perm (M r) := fun r hr => (hI.2.2.2.2.1 r hr).1
  refine Ct.mono (c_PS_order hP) ?_
  rintro a z1 h1 ⟨rfl, hf, fn', fv', fs', L', hg, h60', rfl, hLp, hP1⟩
  have hm := hf.mid hA hAz
  have hM1 := hM.at hm
  have hO1 := (hm _ (by omega) (by omega)).trans hO
  refine ⟨_, _, rfl, hM1.1, Ct.mono (c_Md_order hI hM1) ?_⟩
  rintro b z2 h2 ⟨rfl, hf2, fs2, fn2, fv2, ⟨o1, o2, o3⟩, ofs, rfl, hM2⟩
  have hP2 := hP1.far hA hf2
  have hO2 := (hf2 _ (by omega)).trans hO1
  have hag : ∀ u, tget fn' fv' fs' u = tget fn2 fv2 fs2 u := fun u => by
    rw [hg u, o3 u]
    exact cntO_perm (all_perm hpm mk) u
  have hto : tabOk 1800 fn' fs' := hP1.2.1.2
  have e : fs2 = fs' := (tsize (fun i j h3 h4 => Nat.ne_of_lt (hto.2.2.2 i j h3 h4)) o2 hag).symm
  subst e
  have hFF : tF fn' fv' fs2 = tF fn2 fv2 fs2 := tF_eq hag
  refine ⟨rfl, Nat.le_refl _, RLW.ex (M := M) ⟨hP2, hM2, ⟨fo, hO2⟩, ⟨hA, hAz⟩, ?_, ⟨rfl, h60'⟩, ⟨hWe, hWt⟩, hB, hK, ⟨hT, hsp⟩, ⟨hcm, hcm20, hcf⟩, hN.perm hLp⟩⟩
  obtain ⟨i1, i4, i5, i6, i7, i8, i9⟩ := hI
  refine ⟨i1, i4, i5, ⟨ofs, hFF, o1, o2, fun i hi => ?_⟩, fun r hr => ⟨(hLp r).trans (hpm r hr), (ps_sort hP2 hr).1⟩, i8, i9⟩
  have h5 := h60' (fn2 i)
  rw [hFF] at h5
  unfold tF at h5
  rw [tget_first o2 hi] at h5
  exact h5
