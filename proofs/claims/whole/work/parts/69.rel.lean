/-! the relation of PairSieve (at x) and PairSieveModel (at x + 23); out at x + 42; the sets behind -/
def RLW (G : Gd) (h : AH) (z x : Nat) (mk : Nat) (sa : Nat → Option Nat) (L : Nat → List Nat) (M : Nat → List Nat) (F : Nat → Nat) (W : Nat → Nat) (fn : Nat → Nat) (fv : Nat → Nat) (fs : Nat) (tn : Nat → Nat) (tv : Nat → Nat) (ts : Nat) (kd : Nat) (p : Nat) (q : Nat) (bf : Nat → Nat) (len : Nat) (ta : Nat → Nat) (sp : Nat) (f1 : Nat → Nat) (f2 : Nat → Nat) (f3 : Nat → Nat) (ks : Nat) (ff : Nat → Nat) (fg : Nat) (co : Nat) (th : Int32) (fm : Nat) (cm : Nat) (be : Nat) (dz : Nat → Bool) (mn : Nat → Nat) (st : Nat → Nat) (un : Nat → Nat) (uv : Nat → Nat) (gn : Nat → Nat) (gv : Nat → Nat) (on : Nat → Nat) (tw : Nat → Nat) (bm : Nat → Nat) (g1 : Nat → Nat) (g2 : Nat → Nat) (g3 : Nat → Nat) (sv : Nat → Nat) (fa : Nat → Int32) (fy : Nat → Nat) (bs : Nat → Nat) (cf : Nat → Nat) : Prop :=
  psAt G h z x mk sa L (fun _ => F) (fun _ => W) fn fv fs tn tv ts kd p q bf len ta sp f1 f2 f3 ks ff fg co ∧
  mdC G h (x + 23) th mk ts fs kd p q len ks fm cm be dz mn st un uv gn gv on tw bm g1 g2 g3 sv fa fy bs cf ∧
  (∃ f : Nat → Int64, h (x + 42) = some (oJ G 1 f)) ∧
  ((∀ r q0, sa r = some q0 → x + 43 ≤ q0) ∧ x + 43 ≤ z) ∧
  mdI mk ts fs kd p q (al sa) M L W F dz mn st un uv gn gv ∧
  (F = tF fn fv fs ∧ ∀ v, F v ≤ 60) ∧
  (W = wtF kd tn tv ts ∧ ∀ u, tget tn tv ts u = tget un uv ts u) ∧
  (∀ j, j < len → bm j = bf j) ∧
  (∀ j, j < ks → f1 j = g1 j ∧ f2 j = g2 j ∧ f3 j = g3 j) ∧
  ((∀ f, f < 5 → ta f = sv (mpW f)) ∧ sp = sv 5) ∧
  (cm = (bl co).length ∧ cm ≤ 20 ∧ ∀ j, j < cm → cf j = (bl co).getD j 0) ∧
  nInv kd p q W sa L mk ff fg
def REL (G : Gd) (h : AH) (z x : Nat) : Prop := ∃ (mk : Nat) (sa : Nat → Option Nat) (L : Nat → List Nat) (M : Nat → List Nat) (F : Nat → Nat) (W : Nat → Nat) (fn : Nat → Nat) (fv : Nat → Nat) (fs : Nat) (tn : Nat → Nat) (tv : Nat → Nat) (ts : Nat) (kd : Nat) (p : Nat) (q : Nat) (bf : Nat → Nat) (len : Nat) (ta : Nat → Nat) (sp : Nat) (f1 : Nat → Nat) (f2 : Nat → Nat) (f3 : Nat → Nat) (ks : Nat) (ff : Nat → Nat) (fg : Nat) (co : Nat) (th : Int32) (fm : Nat) (cm : Nat) (be : Nat) (dz : Nat → Bool) (mn : Nat → Nat) (st : Nat → Nat) (un : Nat → Nat) (uv : Nat → Nat) (gn : Nat → Nat) (gv : Nat → Nat) (on : Nat → Nat) (tw : Nat → Nat) (bm : Nat → Nat) (g1 : Nat → Nat) (g2 : Nat → Nat) (g3 : Nat → Nat) (sv : Nat → Nat) (fa : Nat → Int32) (fy : Nat → Nat) (bs : Nat → Nat) (cf : Nat → Nat), RLW G h z x mk sa L M F W fn fv fs tn tv ts kd p q bf len ta sp f1 f2 f3 ks ff fg co th fm cm be dz mn st un uv gn gv on tw bm g1 g2 g3 sv fa fy bs cf
theorem RLW.ex {G : Gd} {h : AH} {z x : Nat} {mk : Nat} {sa : Nat → Option Nat} {L : Nat → List Nat} {M : Nat → List Nat} {F : Nat → Nat} {W : Nat → Nat} {fn : Nat → Nat} {fv : Nat → Nat} {fs : Nat} {tn : Nat → Nat} {tv : Nat → Nat} {ts : Nat} {kd : Nat} {p : Nat} {q : Nat} {bf : Nat → Nat} {len : Nat} {ta : Nat → Nat} {sp : Nat} {f1 : Nat → Nat} {f2 : Nat → Nat} {f3 : Nat → Nat} {ks : Nat} {ff : Nat → Nat} {fg : Nat} {co : Nat} {th : Int32} {fm : Nat} {cm : Nat} {be : Nat} {dz : Nat → Bool} {mn : Nat → Nat} {st : Nat → Nat} {un : Nat → Nat} {uv : Nat → Nat} {gn : Nat → Nat} {gv : Nat → Nat} {on : Nat → Nat} {tw : Nat → Nat} {bm : Nat → Nat} {g1 : Nat → Nat} {g2 : Nat → Nat} {g3 : Nat → Nat} {sv : Nat → Nat} {fa : Nat → Int32} {fy : Nat → Nat} {bs : Nat → Nat} {cf : Nat → Nat} (R : RLW G h z x mk sa L M F W fn fv fs tn tv ts kd p q bf len ta sp f1 f2 f3 ks ff fg co th fm cm be dz mn st un uv gn gv on tw bm g1 g2 g3 sv fa fy bs cf) : REL G h z x := ⟨_, _, _, _, _, _, _, _, _, _, _, _, _, _, _, _, _, _, _, _, _, _, _, _, _, _, _, _, _, _, _, _, _, _, _, _, _, _, _, _, _, _, _, _, _, _, _, _, R⟩
theorem Ct.mono {G : Gd} {y : MethodName} {cc : ByteArray} {mL : Nat} {ret : Option FieldType} {d mc ms : Nat} {av : List Value} {z : Nat} {h : AH} {post post' : Option Value → Nat → AH → Prop} (hC : Ct G y cc mL ret d mc ms av z h post) (hp : ∀ v z' h', post v z' h' → post' v z' h') : Ct G y cc mL ret d mc ms av z h post' := by
  intro l
  refine MetFree.mono (hC l) (fun _ _ w => w) (fun _ _ _ _ _ w => w) (fun a st o t _ hq => ?_)
  obtain ⟨⟨⟨v, z', h', e1, e2, e3, e4⟩, e5⟩, e6⟩ := hq
  exact ⟨⟨⟨v, z', h', e1, hp _ _ _ e2, e3, e4⟩, e5⟩, e6⟩
theorem psAt.far {G : Gd} {h : AH} {z x : Nat} {mk : Nat} {sa : Nat → Option Nat} {L : Nat → List Nat} {F : Nat → Nat} {W : Nat → Nat} {fn : Nat → Nat} {fv : Nat → Nat} {fs : Nat} {tn : Nat → Nat} {tv : Nat → Nat} {ts : Nat} {kd : Nat} {p : Nat} {q : Nat} {bf : Nat → Nat} {len : Nat} {ta : Nat → Nat} {sp : Nat} {f1 : Nat → Nat} {f2 : Nat → Nat} {f3 : Nat → Nat} {ks : Nat} {ff : Nat → Nat} {fg : Nat} {co : Nat} {h' : AH} (hP : psAt G h z x mk sa L (fun _ => F) (fun _ => W) fn fv fs tn tv ts kd p q bf len ta sp f1 f2 f3 ks ff fg co) (hA : ∀ r q0, sa r = some q0 → x + 43 ≤ q0) (hf : fr (x + 23) (x + 23 + 19) h h') : psAt G h' z x mk sa L (fun _ => F) (fun _ => W) fn fv fs tn tv ts kd p q bf len ta sp f1 f2 f3 ks ff fg co := by
  obtain ⟨⟨hx, hsa⟩, ⟨hF, hFO⟩, ⟨hT, hTO⟩, ⟨hm, hM⟩, ⟨⟨nf, hp⟩, hPO⟩, ⟨s0, s1, s2, ho⟩, ⟨bg, hbg⟩, hta, ⟨⟨ab, bw, hk⟩, hks⟩, ⟨hn, hnO⟩, hS, hmk, hnone, hxz, hco⟩ := hP
  exact ⟨⟨(hf _ (by omega)).trans hx, (hf _ (by omega)).trans hsa⟩, ⟨hF.kept hf (by omega), hFO⟩, ⟨hT.kept hf (by omega), hTO⟩, ⟨(hf _ (by omega)).trans hm, hM⟩, ⟨⟨nf, hp.kept hf (by omega)⟩, hPO⟩, ⟨s0, s1, s2, (hf _ (by omega)).trans ho⟩, ⟨bg, (hf _ (by omega)).trans hbg⟩, (hf _ (by omega)).trans hta, ⟨⟨ab, bw, hk.kept hf (by omega)⟩, hks⟩, ⟨hn.kept hf (by omega), hnO⟩, ⟨fun r q0 hr => ⟨(hS.1 r q0 hr).1.kept hf (Or.inr (by have := hA r q0 hr; omega)), (hS.1 r q0 hr).2⟩, hS.2⟩, hmk, hnone, hxz, hco⟩
theorem mdC.at {G : Gd} {h : AH} {x : Nat} {th : Int32} {mk : Nat} {ts : Nat} {fs : Nat} {kd : Nat} {p : Nat} {q : Nat} {len : Nat} {ks : Nat} {fm : Nat} {cm : Nat} {be : Nat} {dz : Nat → Bool} {mn : Nat → Nat} {st : Nat → Nat} {un : Nat → Nat} {uv : Nat → Nat} {gn : Nat → Nat} {gv : Nat → Nat} {on : Nat → Nat} {tw : Nat → Nat} {bm : Nat → Nat} {g1 : Nat → Nat} {g2 : Nat → Nat} {g3 : Nat → Nat} {sv : Nat → Nat} {fa : Nat → Int32} {fy : Nat → Nat} {bs : Nat → Nat} {cf : Nat → Nat} {h' : AH} (hM : mdC G h (x + 23) th mk ts fs kd p q len ks fm cm be dz mn st un uv gn gv on tw bm g1 g2 g3 sv fa fy bs cf) (hf : ∀ q, x + 23 ≤ q → q < x + 43 → h' q = h q) : mdC G h' (x + 23) th mk ts fs kd p q len ks fm cm be dz mn st un uv gn gv on tw bm g1 g2 g3 sv fa fy bs cf := by
  obtain ⟨m0, m1, m2, m3, m4, m5, m6, m7, m8, m9, m10, m11, m12, m13, m14, m15, m16, m17, m18⟩ := hM
  exact ⟨(hf _ (by omega) (by omega)).trans m0, (hf _ (by omega) (by omega)).trans m1, (hf _ (by omega) (by omega)).trans m2, (hf _ (by omega) (by omega)).trans m3, (hf _ (by omega) (by omega)).trans m4, (hf _ (by omega) (by omega)).trans m5, (hf _ (by omega) (by omega)).trans m6, (hf _ (by omega) (by omega)).trans m7, (hf _ (by omega) (by omega)).trans m8, (hf _ (by omega) (by omega)).trans m9, (hf _ (by omega) (by omega)).trans m10, (hf _ (by omega) (by omega)).trans m11, (hf _ (by omega) (by omega)).trans m12, (hf _ (by omega) (by omega)).trans m13, (hf _ (by omega) (by omega)).trans m14, (hf _ (by omega) (by omega)).trans m15, (hf _ (by omega) (by omega)).trans m16, (hf _ (by omega) (by omega)).trans m17, (hf _ (by omega) (by omega)).trans m18⟩
theorem frO.mid {x z : Nat} {sa : Nat → Option Nat} {h h' : AH} (hf : frO x z sa h h') (hA : ∀ r q0, sa r = some q0 → x + 43 ≤ q0) (hz : x + 43 ≤ z) : ∀ q, x + 23 ≤ q → q < x + 43 → h' q = h q := fun q h1 h2 => hf q (by omega) (by
  rintro (⟨g1, g2⟩ | ⟨r, q0, g1, g2, g3⟩)
  · omega
  · have := hA r q0 g1; omega)
theorem fr.mid {x lo hi : Nat} {h h' : AH} (hf : fr lo hi h h') (h1 : hi ≤ x + 23) : ∀ q, x + 23 ≤ q → q < x + 43 → h' q = h q := fun q h2 h3 => hf q (by omega)
theorem al_iff {sa : Nat → Option Nat} {k : Nat} : al sa k = true ↔ (sa k).isSome = true := Iff.rfl
theorem sOf_av {sa : Nat → Option Nat} {r : Int32} : (sOf sa r = none) ↔ avI (al sa) r = false := by
  unfold sOf avI al
  by_cases h : r.toInt < 0
  · rw [if_pos h, decide_eq_false (by omega)]; simp
  · rw [if_neg h, decide_eq_true (by omega), Bool.true_and]
    cases sa r.toInt.toNat <;> simp
theorem tget_bd {ts : Nat} {un uv : Nat → Nat} (h : ∀ i, i < ts → 1 ≤ uv i ∧ uv i ≤ 100) {u w : Nat} (hw : tget un uv ts u = some w) : 1 ≤ w ∧ w ≤ 100 := by
  obtain ⟨j, h1, -, rfl⟩ := tget_mem hw
  exact h j h1
theorem wtF_eq {kd ts ts' : Nat} {tn tv un uv : Nat → Nat} (h : ∀ u, tget tn tv ts u = tget un uv ts' u) : wtF kd tn tv ts = wtF kd un uv ts' := by
  funext k
  unfold wtF
  rw [h k]
theorem tF_eq {ts ts' : Nat} {tn tv un uv : Nat → Nat} (h : ∀ u, tget tn tv ts u = tget un uv ts' u) : tF tn tv ts = tF un uv ts' := by
  funext k
  unfold tF
  rw [h k]
theorem RLW.wb {G : Gd} {h : AH} {z x : Nat} {mk : Nat} {sa : Nat → Option Nat} {L : Nat → List Nat} {M : Nat → List Nat} {F : Nat → Nat} {W : Nat → Nat} {fn : Nat → Nat} {fv : Nat → Nat} {fs : Nat} {tn : Nat → Nat} {tv : Nat → Nat} {ts : Nat} {kd : Nat} {p : Nat} {q : Nat} {bf : Nat → Nat} {len : Nat} {ta : Nat → Nat} {sp : Nat} {f1 : Nat → Nat} {f2 : Nat → Nat} {f3 : Nat → Nat} {ks : Nat} {ff : Nat → Nat} {fg : Nat} {co : Nat} {th : Int32} {fm : Nat} {cm : Nat} {be : Nat} {dz : Nat → Bool} {mn : Nat → Nat} {st : Nat → Nat} {un : Nat → Nat} {uv : Nat → Nat} {gn : Nat → Nat} {gv : Nat → Nat} {on : Nat → Nat} {tw : Nat → Nat} {bm : Nat → Nat} {g1 : Nat → Nat} {g2 : Nat → Nat} {g3 : Nat → Nat} {sv : Nat → Nat} {fa : Nat → Int32} {fy : Nat → Nat} {bs : Nat → Nat} {cf : Nat → Nat} (R : RLW G h z x mk sa L M F W fn fv fs tn tv ts kd p q bf len ta sp f1 f2 f3 ks ff fg co th fm cm be dz mn st un uv gn gv on tw bm g1 g2 g3 sv fa fy bs cf) : (∀ u w, tget tn tv ts u = some w → 1 ≤ w ∧ w ≤ 100) ∧ ∀ v, 1 ≤ W v ∧ W v ≤ 100 := by
  obtain ⟨hP, hM, ⟨fo, hO⟩, ⟨hA, hAz⟩, hI, ⟨hFe, hF60⟩, ⟨hWe, hWt⟩, hB, hK, ⟨hT, hsp⟩, ⟨hcm, hcm20, hcf⟩, hN⟩ := R
  have h1 : ∀ u w, tget tn tv ts u = some w → 1 ≤ w ∧ w ≤ 100 := fun u w hw => tget_bd hI.2.2.1.2.2.2.2 ((hWt u).symm.trans hw)
  exact ⟨h1, fun v => by rw [hWe]; exact wtF_bd h1 v⟩
theorem ps_sort {G : Gd} {h : AH} {z x : Nat} {mk : Nat} {sa : Nat → Option Nat} {L : Nat → List Nat} {F : Nat → Nat} {W : Nat → Nat} {fn : Nat → Nat} {fv : Nat → Nat} {fs : Nat} {tn : Nat → Nat} {tv : Nat → Nat} {ts : Nat} {kd : Nat} {p : Nat} {q : Nat} {bf : Nat → Nat} {len : Nat} {ta : Nat → Nat} {sp : Nat} {f1 : Nat → Nat} {f2 : Nat → Nat} {f3 : Nat → Nat} {ks : Nat} {ff : Nat → Nat} {fg : Nat} {co : Nat} (hP : psAt G h z x mk sa L (fun _ => F) (fun _ => W) fn fv fs tn tv ts kd p q bf len ta sp f1 f2 f3 ks ff fg co) {r : Nat} (hr : al sa r = true) : (∀ i j, i < j → j < (L r).length → kyF F ((L r).getD i 0) < kyF F ((L r).getD j 0)) ∧ (L r).Nodup ∧ (∀ v, v ∈ L r → v < 1000000) ∧ (L r).length ≤ 30 := by
  obtain ⟨⟨hx, hsa⟩, ⟨hF, hFO⟩, ⟨hT, hTO⟩, ⟨hm, hM⟩, ⟨⟨nf, hp⟩, hPO⟩, ⟨s0, s1, s2, ho⟩, ⟨bg, hbg⟩, hta, ⟨⟨ab, bw, hk⟩, hks⟩, ⟨hn, hnO⟩, hS, hmk, hnone, hxz, hco⟩ := hP
  obtain ⟨q0, hq⟩ := Option.isSome_iff_exists.mp hr
  have hN := (hS.1 r q0 hq).1
  refine ⟨?_, nd_of hN.nd, hN.1, hN.len⟩
  obtain ⟨-, kf, wf, am, -, hok, hkw, -⟩ := hN
  intro i j hij hj
  rw [← (hkw i (by omega)).1, ← (hkw j hj).1]
  exact hok.2.2.1 i j hij hj
section NI
variable {kd p q : Nat} {W : Nat → Nat} {sa : Nat → Option Nat} {L : Nat → List Nat} {mk : Nat} {ff : Nat → Nat} {fg : Nat}
theorem arB_cong {sa' : Nat → Option Nat} {L' : Nat → List Nat} {r s : Nat} (h1 : sa' r = sa r) (h2 : sa' s = sa s) (h3 : L' r = L r) (h4 : L' s = L s) : arB kd p q W sa' L' r s = arB kd p q W sa L r s := by
  unfold arB
  rw [h1, h2, h3, h4]
theorem nInv.rec (h : nInv kd p q W sa L mk ff fg) (z : Nat) : nInv kd p q W (va_up sa mk (some z)) (va_up L mk []) (mk + 1) ff fg := by
  refine ⟨fun r s hb => ?_, fun r s hr hs hne g1 g2 => ?_⟩
  · have := h.1 r s hb; omega
  · by_cases e1 : r = mk
    · rw [arB_nil (Or.inl (by rw [e1, vu_at]))]
      cases hq : (ff r).testBit s with
      | false => rfl
      | true => have := h.1 r s hq; omega
    · by_cases e2 : s = mk
      · rw [arB_nil (Or.inr (by rw [e2, vu_at]))]
        cases hq : (ff r).testBit s with
        | false => rfl
        | true => have := h.1 r s hq; omega
      · rw [arB_cong (vu_ne _ _ e1) (vu_ne _ _ e2) (vu_ne _ _ e1) (vu_ne _ _ e2)]
        exact h.2 r s (by omega) (by omega) hne g1 g2
theorem bit_or {n k r : Nat} (h : (n ||| 2 ^ k).testBit r = false) : n.testBit r = false ∧ r ≠ k := by
  rw [Nat.testBit_or, Bool.or_eq_false_iff, Nat.testBit_two_pow] at h
  exact ⟨h.1, fun e => of_decide_eq_false h.2 e.symm⟩
theorem nInv.one (h : nInv kd p q W sa L mk ff fg) {k : Nat} {sa' : Nat → Option Nat} {L' : Nat → List Nat} (h1 : ∀ r, r ≠ k → sa' r = sa r) (h2 : ∀ r, r ≠ k → L' r = L r) : nInv kd p q W sa' L' mk ff (fg ||| 2 ^ k) := by
  refine ⟨h.1, fun r s hr hs hne g1 g2 => ?_⟩
  obtain ⟨a1, a2⟩ := bit_or g1
  obtain ⟨b1, b2⟩ := bit_or g2
  rw [arB_cong (h1 r a2) (h1 s b2) (h2 r a2) (h2 s b2)]
  exact h.2 r s hr hs hne a1 b1
theorem nInv.all (h : nInv kd p q W sa L mk ff fg) {kd' p' q' fg' : Nat} {W' : Nat → Nat} (hf : ∀ r, r < mk → fg'.testBit r = true) : nInv kd' p' q' W' sa L mk ff fg' := by
  refine ⟨h.1, fun r s hr hs hne g1 g2 => ?_⟩
  rw [hf r hr] at g1
  cases g1
theorem nInv.perm (h : nInv kd p q W sa L mk ff fg) {L' : Nat → List Nat} (hp : ∀ r, (L' r).Perm (L r)) : nInv kd p q W sa L' mk ff fg := by
  refine ⟨h.1, fun r s hr hs hne g1 g2 => ?_⟩
  rw [h.2 r s hr hs hne g1 g2]
  unfold arB
  rw [amL_perm (hp r), amL_perm (hp s), shL_perm (hp r) (hp s)]
end NI
