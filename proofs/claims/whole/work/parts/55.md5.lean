theorem sm_zero {f : Nat → Nat} : ∀ {n : Nat}, (∀ j, j < n → f j = 0) → sm f n = 0
  | 0, _ => rfl
  | n + 1, h => by rw [sm_s, sm_zero (fun j hj => h j (by omega)), h n (by omega)]
theorem sm_add {f g : Nat → Nat} : ∀ n, sm (fun j => f j + g j) n = sm f n + sm g n
  | 0 => rfl
  | n + 1 => by rw [sm_s, sm_s, sm_s, sm_add n]; omega
theorem sm_swap {f : Nat → Nat → Nat} {m : Nat} : ∀ n, sm (fun a => sm (f a) m) n = sm (fun s => sm (fun a => f a s) n) m
  | 0 => (sm_zero (fun _ _ => rfl)).symm
  | n + 1 => by
    rw [sm_s, sm_swap n, ← sm_add]
    rfl
theorem prS_sum {al : Nat → Bool} {r : Nat} {g : Nat × Nat → Nat} : ∀ n, ((prS al r n).map g).sum = sm (fun s => if r < s ∧ al r = true ∧ al s = true then g (r, s) else 0) n
  | 0 => rfl
  | n + 1 => by
    rw [prS_s, List.map_append, List.sum_append, prS_sum n, sm_s]
    by_cases h : r < n ∧ al r = true ∧ al n = true
    · rw [if_pos h, if_pos h]; simp
    · rw [if_neg h, if_neg h]; rfl
theorem prS_off {al : Nat → Bool} {r : Nat} (h : al r = false) : ∀ {n : Nat}, prS al r n = []
  | 0 => rfl
  | n + 1 => by rw [prS_s, prS_off h, if_neg (fun w => by have := w.2.1; rw [h] at this; cases this)]; rfl
def cA (kd p q : Nat) (W : Nat → Nat) (L : Nat → List Nat) (av : Nat → Bool) (i a s : Nat) : Nat := if (i < s ∧ av s = true) ∧ (L i).getD a 0 ∈ (L s).take (bgn kd p q W (L s)) then 1 else 0
theorem cA_lo {kd p q : Nat} {W : Nat → Nat} {L : Nat → List Nat} {av : Nat → Bool} {i a s : Nat} (h : ¬ i < s) : cA kd p q W L av i a s = 0 := if_neg (fun w => h w.1.1)
theorem cA_off {kd p q : Nat} {W : Nat → Nat} {L : Nat → List Nat} {av : Nat → Bool} {i a s : Nat} (h : av s = false) : cA kd p q W L av i a s = 0 := if_neg (fun w => by have := w.1.2; rw [h] at this; cases this)
theorem cA_on {kd p q : Nat} {W : Nat → Nat} {L : Nat → List Nat} {av : Nat → Bool} {i a s : Nat} (h1 : i < s) (h2 : av s = true) : cA kd p q W L av i a s = if (L i).getD a 0 ∈ (L s).take (bgn kd p q W (L s)) then 1 else 0 := by
  unfold cA
  by_cases g : (L i).getD a 0 ∈ (L s).take (bgn kd p q W (L s))
  · rw [if_pos g, if_pos ⟨⟨h1, h2⟩, g⟩]
  · rw [if_neg g, if_neg (fun w => g w.2)]
theorem spent_row {kd p q mk i : Nat} {W : Nat → Nat} {L : Nat → List Nat} {av : Nat → Bool} (hi : av i = true) (hb : bgn kd p q W (L i) ≤ (L i).length) : ((prS av i mk).map (sbE kd p q W L)).sum = sm (fun a => sm (cA kd p q W L av i a) mk) (bgn kd p q W (L i)) := by
  rw [sm_swap, prS_sum]
  refine sm_congr (fun s _ => ?_)
  by_cases h : i < s ∧ av s = true
  · rw [if_pos ⟨h.1, hi, h.2⟩]
    show sbL _ _ _ _ = _
    unfold sbL
    rw [← sm_take (f := fun a => if (L i).getD a 0 ∈ (L s).take (bgn kd p q W (L s)) then 1 else 0) (g := fun v => if v ∈ (L s).take (bgn kd p q W (L s)) then 1 else 0) (L := L i) (fun _ _ => rfl) _ hb]
    exact sm_congr (fun a _ => (cA_on h.1 h.2).symm)
  · rw [if_neg (fun w => h ⟨w.1, w.2.2⟩)]
    exact (sm_zero (fun a _ => if_neg (fun w => h w.1))).symm
theorem take_yes {Q : List Nat} {v b : Nat} (hn : Q.Nodup) (hb : b < Q.length) (e : v = Q.getD b 0) : (if v ∈ Q.take b then 1 else 0) + 1 = (if v ∈ Q.take (b + 1) then 1 else 0) := by
  rw [if_neg (fun hm => by
    obtain ⟨i, i1, i2⟩ := (mem_take (by omega)).mp hm
    exact nd_getD hn i1 hb (i2.trans e)), if_pos (by rw [take_s hb, e]; exact List.mem_append_right _ (List.mem_singleton.mpr rfl))]
theorem take_no {Q : List Nat} {v b : Nat} (hb : b < Q.length) (e : ¬ v = Q.getD b 0) : (if v ∈ Q.take b then 1 else 0) + 0 = (if v ∈ Q.take (b + 1) then 1 else 0) := by
  rw [take_s hb]
  by_cases h : v ∈ Q.take b
  · rw [if_pos h, if_pos (List.mem_append_left _ h)]
  · rw [if_neg h, if_neg (fun w => by
      rcases List.mem_append.mp w with w | w
      · exact h w
      · exact e (List.mem_singleton.mp w))]
def mpW (w : Nat) : Nat := if w = 0 then 0 else if w = 4 then 1 else if w = 1 then 4 else w
theorem mpW_lt : ∀ w, w < 5 → mpW w < 5 := by decide
theorem mpW_inj : ∀ w, w < 5 → ∀ v, v < 5 → w ≠ v → mpW w ≠ mpW v := by decide
def svI (kd p q : Nat) (W : Nat → Nat) (L : Nat → List Nat) (sv : Nat → Nat) (A : List (Nat × Nat)) : Prop := ∀ f, f < 5 → sv (mpW f) = (cnE kd p q W L A f).length
theorem svI.snoc {kd p q : Nat} {W : Nat → Nat} {L : Nat → List Nat} {sv : Nat → Nat} {A : List (Nat × Nat)} {e : Nat × Nat} {w : Nat} (h : svI kd p q W L sv A) (ew : fdE kd p q W L e = w) (hw : w < 5) : svI kd p q W L (va_up sv (mpW w) (sv (mpW w) + 1)) (A ++ [e]) := by
  intro f hf
  rw [cnE_snoc, List.length_append]
  by_cases g : f = w
  · rw [g, vu_at, if_pos ew, h w hw]; rfl
  · rw [vu_ne _ _ (mpW_inj f hf w hw g), if_neg (fun q => g (by rw [← ew, q])), h f hf]; rfl
set_option maxRecDepth 100000 in
set_option maxHeartbeats 4000000 in
theorem c_Md_keep {G : Gd} {z : Nat} {h : AH} {y : Nat} {th : Int32} {mk : Nat} {ts : Nat} {fs : Nat} {kd : Nat} {p : Nat} {q : Nat} {len : Nat} {ks : Nat} {fm : Nat} {cm : Nat} {be : Nat} {dz : Nat → Bool} {mn : Nat → Nat} {st : Nat → Nat} {tn : Nat → Nat} {tv : Nat → Nat} {fn : Nat → Nat} {fv : Nat → Nat} {on : Nat → Nat} {tw : Nat → Nat} {bf : Nat → Nat} {g1 : Nat → Nat} {g2 : Nat → Nat} {g3 : Nat → Nat} {sv : Nat → Nat} {fa : Nat → Int32} {fy : Nat → Nat} {bs : Nat → Nat} {cf : Nat → Nat} {av : Nat → Bool} {M L : Nat → List Nat} {W F : Nat → Nat} (a r s : Nat) (ha : a < 1800) (hr : av r = true) (hs : av s = true) (hI : mdI mk ts fs kd p q av M L W F dz mn st tn tv fn fv) (hM : mdC G h y th mk ts fs kd p q len ks fm cm be dz mn st tn tv fn fv on tw bf g1 g2 g3 sv fa fy bs cf)  : Ct G yX8_keep cX8_keep 4 none 2 0 0 [.ref y, .int (nI a), .int (nI r), .int (nI s)] z h (fun r' z' h' => r' = none ∧ z' = z ∧ fr y (y + 19) h h' ∧ mdC G h' y th mk ts fs kd p q len ks fm cm be dz mn st tn tv fn fv on tw bf (va_up g1 a r) (va_up g2 a s) (va_up g3 a (shL W (L r) (L s))) sv fa fy bs cf) := by
  refine Ct.of (lv := [_, _, _, _]) (by decide) (Nat.le_of_ble_eq_true rfl) rfl ?_
  rintro X rfl hX hR hnm
  have f0 : fr y (y + 19) h h := fr.rf
  refine V_aload_n (pc' := 1) hX dX8_keep_0 rfl rfl ?_
  refine V_get (pc' := 4) hX dX8_keep_1 hM.1 rfl inX8 19 (by decide) wF_X8_51 rfl rfl ?_
  refine V_iload_n (pc' := 5) hX dX8_keep_4 rfl rfl ?_
  refine V_iload_n (pc' := 6) hX dX8_keep_5 rfl rfl ?_
  refine V_iastN (pc' := 7) hX dX8_keep_6 hM.2.2.2.2.2.2.2.2.2.2.2.1 (by omega) (by omega) rfl ?_
  refine V.gen (fun h1 eh1 => ?_)
  have fh1 := fr.of_up eh1
  have hM := hM.u11 (up_at eh1) fh1
  have f0 := f0.tr (fh1.mono (lo' := y) (hi' := y + 19) (by omega) (by omega))
  refine V_aload_n (pc' := 8) hX dX8_keep_7 rfl rfl ?_
  refine V_get (pc' := 11) hX dX8_keep_8 hM.1 rfl inX8 20 (by decide) wF_X8_54 rfl rfl ?_
  refine V_iload_n (pc' := 12) hX dX8_keep_11 rfl rfl ?_
  refine V_iload_n (pc' := 13) hX dX8_keep_12 rfl rfl ?_
  refine V_iastN (pc' := 14) hX dX8_keep_13 hM.2.2.2.2.2.2.2.2.2.2.2.2.1 (by omega) (by omega) rfl ?_
  refine V.gen (fun h2 eh2 => ?_)
  have fh2 := fr.of_up eh2
  have hM := hM.u12 (up_at eh2) fh2
  have f0 := f0.tr (fh2.mono (lo' := y) (hi' := y + 19) (by omega) (by omega))
  refine V_aload_n (pc' := 15) hX dX8_keep_14 rfl rfl ?_
  refine V_get (pc' := 18) hX dX8_keep_15 hM.1 rfl inX8 21 (by decide) wF_X8_57 rfl rfl ?_
  refine V_iload_n (pc' := 19) hX dX8_keep_18 rfl rfl ?_
  refine V_aload_n (pc' := 20) hX dX8_keep_19 rfl rfl ?_
  refine V_iload_n (pc' := 21) hX dX8_keep_20 rfl rfl ?_
  refine V_iload_n (pc' := 22) hX dX8_keep_21 rfl rfl ?_
  refine V_callV (nA := 2) (pc' := 25) (k' := 0) (n' := 0) hX dX8_keep_22 (c_Md_shared r s hr hs hI hM) hM.1 rfl wM_X8_139 wI_X8_shared wL_X8_shared wN_X8 wC_X8_shared rfl hy_X8_shared rfl (Nat.le_of_ble_eq_true rfl) (by decide) (by omega) rfl rfl (by omega) rfl (by omega) rfl ?_
  rintro _ z h2 ⟨rfl, rfl, rfl⟩
  refine V.stk (st' := [_, _, _]) rfl ?_
  refine V_iastN (pc' := 26) hX dX8_keep_25 hM.2.2.2.2.2.2.2.2.2.2.2.2.2.1 (by omega) (by omega) rfl ?_
  refine V.gen (fun h3 eh3 => ?_)
  have fh3 := fr.of_up eh3
  have hM := hM.u13 (up_at eh3) fh3
  have f0 := f0.tr (fh3.mono (lo' := y) (hi' := y + 19) (by omega) (by omega))
  refine V_vret hX hR dX8_keep_26 ?_
  exact ⟨rfl, rfl, f0, hM⟩
set_option maxRecDepth 100000 in
set_option maxHeartbeats 4000000 in
theorem c_Md_spent {G : Gd} {z : Nat} {h : AH} {y : Nat} {th : Int32} {mk : Nat} {ts : Nat} {fs : Nat} {kd : Nat} {p : Nat} {q : Nat} {len : Nat} {ks : Nat} {fm : Nat} {cm : Nat} {be : Nat} {dz : Nat → Bool} {mn : Nat → Nat} {st : Nat → Nat} {tn : Nat → Nat} {tv : Nat → Nat} {fn : Nat → Nat} {fv : Nat → Nat} {on : Nat → Nat} {tw : Nat → Nat} {bf : Nat → Nat} {g1 : Nat → Nat} {g2 : Nat → Nat} {g3 : Nat → Nat} {sv : Nat → Nat} {fa : Nat → Int32} {fy : Nat → Nat} {bs : Nat → Nat} {cf : Nat → Nat} {av : Nat → Bool} {M L : Nat → List Nat} {W F : Nat → Nat} (hI : mdI mk ts fs kd p q av M L W F dz mn st tn tv fn fv) (hM : mdC G h y th mk ts fs kd p q len ks fm cm be dz mn st tn tv fn fv on tw bf g1 g2 g3 sv fa fy bs cf)  : Ct G yX8_spent cX8_spent 8 (some .int) 3 0 0 [.ref y] z h (fun r' z' h' => r' = some (.int (nI (((prL av mk mk).map (sbE kd p q W L)).sum))) ∧ z' = z ∧ fr (y + 8) (y + 10) h h' ∧ ∃ on' tw', mdC G h' y th mk ts fs kd p q len ks fm cm be dz mn st tn tv fn fv (on') (tw') bf g1 g2 g3 sv fa fy bs cf) := by
  refine Ct.of (lv := [_, _, _, _, _, _, _, _]) (by decide) (Nat.le_of_ble_eq_true rfl) rfl ?_
  rintro X rfl hX hR hnm
  obtain ⟨⟨hmk, hav, hdz⟩, hS, hT, hK, hL, hmo, hemp⟩ := id hI
  refine V_iconst (pc' := 1) (v := nI 0) hX dX8_spent_0 (by decide) rfl ?_
  refine V_istore_n (pc' := 2) (lv' := [_, _, _, _, _, _, _, _]) hX dX8_spent_1 (Nat.le_of_ble_eq_true rfl) rfl rfl ?_
  refine V_iconst (pc' := 3) (v := nI 0) hX dX8_spent_2 (by decide) rfl ?_
  refine V_istore_n (pc' := 4) (lv' := [_, _, _, _, _, _, _, _]) hX dX8_spent_3 (Nat.le_of_ble_eq_true rfl) rfl rfl ?_
  have lp : ∀ (μ i : Nat) (h2 : AH) (o1 o2 : Nat → Nat), i ≤ mk → fr (y + 8) (y + 10) h h2 → mdC X.G h2 y th mk ts fs kd p q len ks fm cm be dz mn st tn tv fn fv (o1) (o2) bf g1 g2 g3 sv fa fy bs cf → mk - i < μ → V X 0 0 z h2 4 [some (.ref y), some (.int (nI (((prL av mk i).map (sbE kd p q W L)).sum))), some (.int (nI i)), none, none, none, none, none] [] := by
    intro μ
    induction μ with
    | zero => intros; omega
    | succ μ ih =>
      intro i h2 o1 o2 b1 b2 hM b4
      refine V_iload_n (pc' := 5) hX dX8_spent_4 rfl rfl ?_
      refine V_aload_n (pc' := 6) hX dX8_spent_5 rfl rfl ?_
      refine V_get (pc' := 9) hX dX8_spent_6 hM.1 rfl inX8 1 (by decide) wF_X8_78 rfl rfl ?_
      refine V_icmp_geN (pt := 170) (pc' := 12) hX dX8_spent_9 (by omega) (by omega) rfl rfl (fun c9 => ?_) (fun c9 => ?_)
      · refine V_iload_n (pc' := 171) hX dX8_spent_170 rfl rfl ?_
        refine V_iret hX hR dX8_spent_171 ?_
        have ei : i = mk := by omega
        subst ei
        exact ⟨rfl, rfl, b2, _, _, hM⟩
      · refine V_aload_n (pc' := 13) hX dX8_spent_12 rfl rfl ?_
        refine V_get (pc' := 16) hX dX8_spent_13 hM.1 rfl inX8 2 (by decide) wF_X8_9 rfl rfl ?_
        refine V_iload_n (pc' := 17) hX dX8_spent_16 rfl rfl ?_
        refine V_zaldN (pc' := 18) (v := bI (dz i)) hX dX8_spent_17 hM.2.1 (by omega) (by omega) rfl rfl ?_
        refine V_if_eqB (pt := 24) (pc' := 21) hX dX8_spent_18 rfl rfl (fun c18 => ?_) (fun c18 => ?_)
        · have hai : av i = true := by
            have := hdz i (by omega)
            rw [c18, decide_eq_true (show i < mk by omega)] at this
            cases hx : av i with
            | true => rfl
            | false => rw [hx] at this; cases this
          have ihO := ih
          have hlr := hI.ll hai
          have hbn := bgn_le kd p q W (L i)
          refine V_aload_n (pc' := 25) hX dX8_spent_24 rfl rfl ?_
          refine V_iload_n (pc' := 26) hX dX8_spent_25 rfl rfl ?_
          refine V_aload_n (pc' := 27) hX dX8_spent_26 rfl rfl ?_
          refine V_get (pc' := 30) hX dX8_spent_27 hM.1 rfl inX8 14 (by decide) wF_X8_42 rfl rfl ?_
          refine V_callV (nA := 2) (pc' := 33) (k' := 0) (n' := 0) hX dX8_spent_30 (c_Md_sort1 i hai hI hM) hM.1 rfl wM_X8_157 wI_X8_sort wL_X8_sort wN_X8 wC_X8_sort rfl hy_X8_sort rfl (Nat.le_of_ble_eq_true rfl) (by decide) (by omega) rfl rfl (by omega) rfl (by omega) rfl ?_
          rintro _ z h3 ⟨rfl, rfl, f1, o3, ho3, hM⟩
          have f3 : fr (y + 8) (y + 10) h h3 := b2.tr (f1.mono (by omega) (by omega))
          refine V.stk (st' := []) rfl ?_
          refine V_aload_n (pc' := 34) hX dX8_spent_33 rfl rfl ?_
          refine V_aload_n (pc' := 35) hX dX8_spent_34 rfl rfl ?_
          refine V_get (pc' := 38) hX dX8_spent_35 hM.1 rfl inX8 14 (by decide) wF_X8_42 rfl rfl ?_
          refine V_aload_n (pc' := 39) hX dX8_spent_38 rfl rfl ?_
          refine V_get (pc' := 42) hX dX8_spent_39 hM.1 rfl inX8 3 (by decide) wF_X8_13 rfl rfl ?_
          refine V_iload_n (pc' := 43) hX dX8_spent_42 rfl rfl ?_
          refine V_ialdN (pc' := 44) (v := nI (L i).length) hX dX8_spent_43 hM.2.2.1 (by omega) (by omega) (by rw [hI.mn hai]) rfl ?_
          refine V_callV (nA := 2) (pc' := 47) (k' := 0) (n' := 0) hX dX8_spent_44 (c_Md_beginning (y + 8) (L i) hM.2.2.2.2.2.2.2.2.1 ho3 hlr (hI.lv hai) hT hmo hM) hM.1 rfl wM_X8_161 wI_X8_beginning wL_X8_beginning wN_X8 wC_X8_beginning rfl hy_X8_beginning rfl (Nat.le_of_ble_eq_true rfl) (by decide) (by omega) rfl rfl (by omega) rfl (by omega) rfl ?_
          rintro _ z h3 ⟨rfl, rfl, rfl⟩
          refine V.stk (st' := [_]) rfl ?_
          refine V_istore_n (pc' := 48) (lv' := [_, _, _, _, _, _, _, _]) hX dX8_spent_47 (Nat.le_of_ble_eq_true rfl) rfl rfl ?_
          refine V_iconst (pc' := 49) (v := nI 0) hX dX8_spent_48 (by decide) rfl ?_
          refine V_istore (pc' := 51) (lv' := [_, _, _, _, _, _, _, _]) hX dX8_spent_49 (Nat.le_of_ble_eq_true rfl) rfl rfl ?_
          have la : ∀ (ν a : Nat) (h4 : AH) (o2 : Nat → Nat), a ≤ (bgn kd p q W (L i)) → fr (y + 8) (y + 10) h h4 → mdC X.G h4 y th mk ts fs kd p q len ks fm cm be dz mn st tn tv fn fv (o3) (o2) bf g1 g2 g3 sv fa fy bs cf → (bgn kd p q W (L i)) - a < ν → V X 0 0 z h4 51 [some (.ref y), some (.int (nI (((prL av mk i).map (sbE kd p q W L)).sum + sm (fun a => sm ((cA kd p q W L av i) a) mk) a))), some (.int (nI i)), some (.int (nI (bgn kd p q W (L i)))), some (.int (nI a)), none, none, none] [] := by
            intro μ
            induction μ with
            | zero => intros; omega
            | succ μ ih =>
              intro a h4 o2 e1 e3 hM e4
              refine V_iload (pc' := 53) hX dX8_spent_51 rfl rfl ?_
              refine V_iload_n (pc' := 54) hX dX8_spent_53 rfl rfl ?_
              refine V_icmp_geN (pt := 164) (pc' := 57) hX dX8_spent_54 (by omega) (by omega) rfl rfl (fun c54 => ?_) (fun c54 => ?_)
              · refine V_iincN (pc' := 167) (j := 1) (lv' := [_, _, _, _, _, _, _, _]) hX dX8_spent_164 rfl rfl rfl rfl ?_
                refine V_goto (pc' := 4) hX dX8_spent_167 rfl ?_
                refine V.loc2 (lv' := [some _, some _, some _, none, none, none, none, none]) ⟨rfl, rfl, rfl, trivial⟩ ?_
                first
                  | (have e : ((prL av mk i).map (sbE kd p q W L)).sum + sm (fun a => sm ((cA kd p q W L av i) a) mk) a = ((prL av mk (i + 1)).map (sbE kd p q W L)).sum := by
                       rw [show a = (bgn kd p q W (L i)) by omega, prL_s, List.map_append, List.sum_append, spent_row hai (bgn_le kd p q W (L i))]
                     rw [e]
                     exact ihO (i + 1) _ _ _ (by omega) e3 hM (by omega))
                  | (have e : ((prL av mk i).map (sbE kd p q W L)).sum = ((prL av mk (i + 1)).map (sbE kd p q W L)).sum := by rw [prL_s, prS_off hai, List.append_nil]
                     rw [e]
                     exact ih (i + 1) _ _ _ (by omega) b2 hM (by omega))
              · have ihA := ih
                refine V_iload_n (pc' := 58) hX dX8_spent_57 rfl rfl ?_
                refine V_iconst (pc' := 59) (v := nI 1) hX dX8_spent_58 (by decide) rfl ?_
                refine V_iaddN (pc' := 60) hX dX8_spent_59 rfl ?_
                refine V_istore (pc' := 62) (lv' := [_, _, _, _, _, _, _, _]) hX dX8_spent_60 (Nat.le_of_ble_eq_true rfl) rfl rfl ?_
                have ls : ∀ (κ s : Nat) (h5 : AH) (o2 : Nat → Nat), i < s → s ≤ mk → fr (y + 8) (y + 10) h h5 → mdC X.G h5 y th mk ts fs kd p q len ks fm cm be dz mn st tn tv fn fv (o3) (o2) bf g1 g2 g3 sv fa fy bs cf → mk - s < κ → V X 0 0 z h5 62 [some (.ref y), some (.int (nI (((prL av mk i).map (sbE kd p q W L)).sum + sm (fun a => sm ((cA kd p q W L av i) a) mk) a + sm ((cA kd p q W L av i) a) s))), some (.int (nI i)), some (.int (nI (bgn kd p q W (L i)))), some (.int (nI a)), some (.int (nI s)), none, none] [] := by
                  intro μ
                  induction μ with
                  | zero => intros; omega
                  | succ μ ih =>
                    intro s h5 o2 g0 g1 g3 hM g4
                    refine V_iload (pc' := 64) hX dX8_spent_62 rfl rfl ?_
                    refine V_aload_n (pc' := 65) hX dX8_spent_64 rfl rfl ?_
                    refine V_get (pc' := 68) hX dX8_spent_65 hM.1 rfl inX8 1 (by decide) wF_X8_78 rfl rfl ?_
                    refine V_icmp_geN (pt := 158) (pc' := 71) hX dX8_spent_68 (by omega) (by omega) rfl rfl (fun c68 => ?_) (fun c68 => ?_)
                    · refine V_iincN (pc' := 161) (j := 1) (lv' := [_, _, _, _, _, _, _, _]) hX dX8_spent_158 rfl rfl rfl rfl ?_
                      refine V_goto (pc' := 51) hX dX8_spent_161 rfl ?_
                      refine V.loc2 (lv' := [some _, some _, some _, some _, some _, none, none, none]) ⟨rfl, rfl, rfl, rfl, rfl, trivial⟩ ?_
                      have e : ((prL av mk i).map (sbE kd p q W L)).sum + sm (fun a => sm ((cA kd p q W L av i) a) mk) a + sm ((cA kd p q W L av i) a) s = ((prL av mk i).map (sbE kd p q W L)).sum + sm (fun a => sm ((cA kd p q W L av i) a) mk) (a + 1) := by
                        rw [show s = mk by omega, sm_s, Nat.add_assoc]
                      rw [e]
                      exact ihA (a + 1) _ _ (by omega) g3 hM (by omega)
                    · refine V_aload_n (pc' := 72) hX dX8_spent_71 rfl rfl ?_
                      refine V_get (pc' := 75) hX dX8_spent_72 hM.1 rfl inX8 2 (by decide) wF_X8_9 rfl rfl ?_
                      refine V_iload (pc' := 77) hX dX8_spent_75 rfl rfl ?_
                      refine V_zaldN (pc' := 78) (v := bI (dz s)) hX dX8_spent_77 hM.2.1 (by omega) (by omega) rfl rfl ?_
                      refine V_if_eqB (pt := 84) (pc' := 81) hX dX8_spent_78 rfl rfl (fun c78 => ?_) (fun c78 => ?_)
                      · have has : av s = true := by
                          have := hdz s (by omega)
                          rw [c78, decide_eq_true (show s < mk by omega)] at this
                          cases hx : av s with
                          | true => rfl
                          | false => rw [hx] at this; cases this
                        have ihS := ih
                        have hls := hI.ll has
                        have hbs := bgn_le kd p q W (L s)
                        refine V_aload_n (pc' := 85) hX dX8_spent_84 rfl rfl ?_
                        refine V_iload (pc' := 87) hX dX8_spent_85 rfl rfl ?_
                        refine V_aload_n (pc' := 88) hX dX8_spent_87 rfl rfl ?_
                        refine V_get (pc' := 91) hX dX8_spent_88 hM.1 rfl inX8 15 (by decide) wF_X8_45 rfl rfl ?_
                        refine V_callV (nA := 2) (pc' := 94) (k' := 0) (n' := 0) hX dX8_spent_91 (c_Md_sort2 s has hI hM) hM.1 rfl wM_X8_157 wI_X8_sort wL_X8_sort wN_X8 wC_X8_sort rfl hy_X8_sort rfl (Nat.le_of_ble_eq_true rfl) (by decide) (by omega) rfl rfl (by omega) rfl (by omega) rfl ?_
                        rintro _ z h6 ⟨rfl, rfl, f6, o6, ho6, hM⟩
                        have k3 : fr (y + 8) (y + 10) h h6 := g3.tr (f6.mono (by omega) (by omega))
                        refine V.stk (st' := []) rfl ?_
                        refine V_aload_n (pc' := 95) hX dX8_spent_94 rfl rfl ?_
                        refine V_aload_n (pc' := 96) hX dX8_spent_95 rfl rfl ?_
                        refine V_get (pc' := 99) hX dX8_spent_96 hM.1 rfl inX8 15 (by decide) wF_X8_45 rfl rfl ?_
                        refine V_aload_n (pc' := 100) hX dX8_spent_99 rfl rfl ?_
                        refine V_get (pc' := 103) hX dX8_spent_100 hM.1 rfl inX8 3 (by decide) wF_X8_13 rfl rfl ?_
                        refine V_iload (pc' := 105) hX dX8_spent_103 rfl rfl ?_
                        refine V_ialdN (pc' := 106) (v := nI (L s).length) hX dX8_spent_105 hM.2.2.1 (by omega) (by omega) (by rw [hI.mn has]) rfl ?_
                        refine V_callV (nA := 2) (pc' := 109) (k' := 0) (n' := 0) hX dX8_spent_106 (c_Md_beginning (y + 9) (L s) hM.2.2.2.2.2.2.2.2.2.1 ho6 hls (hI.lv has) hT hmo hM) hM.1 rfl wM_X8_161 wI_X8_beginning wL_X8_beginning wN_X8 wC_X8_beginning rfl hy_X8_beginning rfl (Nat.le_of_ble_eq_true rfl) (by decide) (by omega) rfl rfl (by omega) rfl (by omega) rfl ?_
                        rintro _ z h6 ⟨rfl, rfl, rfl⟩
                        refine V.stk (st' := [_]) rfl ?_
                        refine V_istore (pc' := 111) (lv' := [_, _, _, _, _, _, _, _]) hX dX8_spent_109 (Nat.le_of_ble_eq_true rfl) rfl rfl ?_
                        refine V_iconst (pc' := 112) (v := nI 0) hX dX8_spent_111 (by decide) rfl ?_
                        refine V_istore (pc' := 114) (lv' := [_, _, _, _, _, _, _, _]) hX dX8_spent_112 (Nat.le_of_ble_eq_true rfl) rfl rfl ?_
                        have lb : ∀ (ι b : Nat), b ≤ (bgn kd p q W (L s)) → (bgn kd p q W (L s)) - b < ι → V X 0 0 z h6 114 [some (.ref y), some (.int (nI (((prL av mk i).map (sbE kd p q W L)).sum + sm (fun a => sm ((cA kd p q W L av i) a) mk) a + sm ((cA kd p q W L av i) a) s + (if (L i).getD a 0 ∈ (L s).take b then 1 else 0)))), some (.int (nI i)), some (.int (nI (bgn kd p q W (L i)))), some (.int (nI a)), some (.int (nI s)), some (.int (nI (bgn kd p q W (L s)))), some (.int (nI b))] [] := by
                          intro μ
                          induction μ with
                          | zero => intros; omega
                          | succ μ ih =>
                            intro b k1 k2
                            refine V_iload (pc' := 116) hX dX8_spent_114 rfl rfl ?_
                            refine V_iload (pc' := 118) hX dX8_spent_116 rfl rfl ?_
                            refine V_icmp_geN (pt := 152) (pc' := 121) hX dX8_spent_118 (by omega) (by omega) rfl rfl (fun c118 => ?_) (fun c118 => ?_)
                            · refine V_iincN (pc' := 155) (j := 1) (lv' := [_, _, _, _, _, _, _, _]) hX dX8_spent_152 rfl rfl rfl rfl ?_
                              refine V_goto (pc' := 62) hX dX8_spent_155 rfl ?_
                              refine V.loc2 (lv' := [some _, some _, some _, some _, some _, some _, none, none]) ⟨rfl, rfl, rfl, rfl, rfl, rfl, trivial⟩ ?_
                              first
                                | (have e : ((prL av mk i).map (sbE kd p q W L)).sum + sm (fun a => sm ((cA kd p q W L av i) a) mk) a + sm ((cA kd p q W L av i) a) s + (if (L i).getD a 0 ∈ (L s).take b then 1 else 0) = ((prL av mk i).map (sbE kd p q W L)).sum + sm (fun a => sm ((cA kd p q W L av i) a) mk) a + sm ((cA kd p q W L av i) a) (s + 1) := by
                                     rw [sm_s, ← Nat.add_assoc, show b = (bgn kd p q W (L s)) by omega, cA_on g0 has]
                                   rw [e]
                                   exact ihS (s + 1) _ _ (by omega) (by omega) k3 hM (by omega))
                                | (have e : ((prL av mk i).map (sbE kd p q W L)).sum + sm (fun a => sm ((cA kd p q W L av i) a) mk) a + sm ((cA kd p q W L av i) a) s = ((prL av mk i).map (sbE kd p q W L)).sum + sm (fun a => sm ((cA kd p q W L av i) a) mk) a + sm ((cA kd p q W L av i) a) (s + 1) := by
                                     rw [sm_s, cA_off has]; rfl
                                   rw [e]
                                   exact ih (s + 1) _ _ (by omega) (by omega) g3 hM (by omega))
                            · refine V_iload_n (pc' := 122) hX dX8_spent_121 rfl rfl ?_
                              refine V_aload_n (pc' := 123) hX dX8_spent_122 rfl rfl ?_
                              refine V_get (pc' := 126) hX dX8_spent_123 hM.1 rfl inX8 14 (by decide) wF_X8_42 rfl rfl ?_
                              refine V_iload (pc' := 128) hX dX8_spent_126 rfl rfl ?_
                              refine V_ialdN (pc' := 129) (v := nI ((L i).getD a 0)) hX dX8_spent_128 hM.2.2.2.2.2.2.2.2.1 (by omega) (by omega) (by rw [ho3 a (by omega)]) rfl ?_
                              refine V_aload_n (pc' := 130) hX dX8_spent_129 rfl rfl ?_
                              refine V_get (pc' := 133) hX dX8_spent_130 hM.1 rfl inX8 15 (by decide) wF_X8_45 rfl rfl ?_
                              refine V_iload (pc' := 135) hX dX8_spent_133 rfl rfl ?_
                              refine V_ialdN (pc' := 136) (v := nI ((L s).getD b 0)) hX dX8_spent_135 hM.2.2.2.2.2.2.2.2.2.1 (by omega) (by omega) (by rw [ho6 b (by omega)]) rfl ?_
                              refine V_icmp_neN (pt := 143) (pc' := 139) hX dX8_spent_136 (by have := hI.lv hai _ (getD_mem (L := L i) (j := a) (by omega)); omega) (by have := hI.lv has _ (getD_mem (L := L s) (j := b) (by omega)); omega) rfl rfl (fun c136 => ?_) (fun c136 => ?_)
                              · refine V_iconst (pc' := 144) (v := nI 0) hX dX8_spent_143 (by decide) rfl ?_
                                refine V_iaddN (pc' := 145) hX dX8_spent_144 rfl ?_
                                refine V_istore_n (pc' := 146) (lv' := [_, _, _, _, _, _, _, _]) hX dX8_spent_145 (Nat.le_of_ble_eq_true rfl) rfl rfl ?_
                                refine V_iincN (pc' := 149) (j := 1) (lv' := [_, _, _, _, _, _, _, _]) hX dX8_spent_146 rfl rfl rfl rfl ?_
                                refine V_goto (pc' := 114) hX dX8_spent_149 rfl ?_
                                first
                                  | (have e : (if (L i).getD a 0 ∈ (L s).take b then 1 else 0) + 1 = (if (L i).getD a 0 ∈ (L s).take (b + 1) then 1 else 0) := take_yes (hI.nd has) (by omega) c136
                                     rw [Nat.add_assoc, e]
                                     exact ih (b + 1) (by omega) (by omega))
                                  | (have e : (if (L i).getD a 0 ∈ (L s).take b then 1 else 0) + 0 = (if (L i).getD a 0 ∈ (L s).take (b + 1) then 1 else 0) := take_no (by omega) c136
                                     rw [Nat.add_assoc, e]
                                     exact ih (b + 1) (by omega) (by omega))
                              · refine V_iconst (pc' := 140) (v := nI 1) hX dX8_spent_139 (by decide) rfl ?_
                                refine V_goto (pc' := 144) hX dX8_spent_140 rfl ?_
                                refine V_iaddN (pc' := 145) hX dX8_spent_144 rfl ?_
                                refine V_istore_n (pc' := 146) (lv' := [_, _, _, _, _, _, _, _]) hX dX8_spent_145 (Nat.le_of_ble_eq_true rfl) rfl rfl ?_
                                refine V_iincN (pc' := 149) (j := 1) (lv' := [_, _, _, _, _, _, _, _]) hX dX8_spent_146 rfl rfl rfl rfl ?_
                                refine V_goto (pc' := 114) hX dX8_spent_149 rfl ?_
                                first
                                  | (have e : (if (L i).getD a 0 ∈ (L s).take b then 1 else 0) + 1 = (if (L i).getD a 0 ∈ (L s).take (b + 1) then 1 else 0) := take_yes (hI.nd has) (by omega) c136
                                     rw [Nat.add_assoc, e]
                                     exact ih (b + 1) (by omega) (by omega))
                                  | (have e : (if (L i).getD a 0 ∈ (L s).take b then 1 else 0) + 0 = (if (L i).getD a 0 ∈ (L s).take (b + 1) then 1 else 0) := take_no (by omega) c136
                                     rw [Nat.add_assoc, e]
                                     exact ih (b + 1) (by omega) (by omega))
                        have e : ((prL av mk i).map (sbE kd p q W L)).sum + sm (fun a => sm ((cA kd p q W L av i) a) mk) a + sm ((cA kd p q W L av i) a) s = ((prL av mk i).map (sbE kd p q W L)).sum + sm (fun a => sm ((cA kd p q W L av i) a) mk) a + sm ((cA kd p q W L av i) a) s + (if (L i).getD a 0 ∈ (L s).take 0 then 1 else 0) := by
                          rw [if_neg (by rw [List.take_zero]; exact List.not_mem_nil)]; rfl
                        rw [e]
                        exact lb ((bgn kd p q W (L s)) + 1) 0 (by omega) (by omega)
                      · have has : av s = false := by
                          have := hdz s (by omega)
                          rw [c78, decide_eq_true (show s < mk by omega)] at this
                          cases hx : av s with
                          | false => rfl
                          | true => rw [hx] at this; cases this
                        refine V_goto (pc' := 152) hX dX8_spent_81 rfl ?_
                        refine V_iincN (pc' := 155) (j := 1) (lv' := [_, _, _, _, _, _, _, _]) hX dX8_spent_152 rfl rfl rfl rfl ?_
                        refine V_goto (pc' := 62) hX dX8_spent_155 rfl ?_
                        refine V.loc2 (lv' := [some _, some _, some _, some _, some _, some _, none, none]) ⟨rfl, rfl, rfl, rfl, rfl, rfl, trivial⟩ ?_
                        first
                          | (have e : ((prL av mk i).map (sbE kd p q W L)).sum + sm (fun a => sm ((cA kd p q W L av i) a) mk) a + sm ((cA kd p q W L av i) a) s + (if (L i).getD a 0 ∈ (L s).take b then 1 else 0) = ((prL av mk i).map (sbE kd p q W L)).sum + sm (fun a => sm ((cA kd p q W L av i) a) mk) a + sm ((cA kd p q W L av i) a) (s + 1) := by
                               rw [sm_s, ← Nat.add_assoc, show b = (bgn kd p q W (L s)) by omega, cA_on g0 has]
                             rw [e]
                             exact ihS (s + 1) _ _ (by omega) (by omega) k3 hM (by omega))
                          | (have e : ((prL av mk i).map (sbE kd p q W L)).sum + sm (fun a => sm ((cA kd p q W L av i) a) mk) a + sm ((cA kd p q W L av i) a) s = ((prL av mk i).map (sbE kd p q W L)).sum + sm (fun a => sm ((cA kd p q W L av i) a) mk) a + sm ((cA kd p q W L av i) a) (s + 1) := by
                               rw [sm_s, cA_off has]; rfl
                             rw [e]
                             exact ih (s + 1) _ _ (by omega) (by omega) g3 hM (by omega))
                refine V.loc2 (lv' := [some _, some _, some _, some _, some _, some _, none, none]) ⟨rfl, rfl, rfl, rfl, rfl, rfl, trivial⟩ ?_
                have e : ((prL av mk i).map (sbE kd p q W L)).sum + sm (fun a => sm ((cA kd p q W L av i) a) mk) a = ((prL av mk i).map (sbE kd p q W L)).sum + sm (fun a => sm ((cA kd p q W L av i) a) mk) a + sm ((cA kd p q W L av i) a) (i + 1) := by
                  rw [show sm ((cA kd p q W L av i) a) (i + 1) = 0 from sm_zero (fun j hj => cA_lo (by omega))]; rfl
                rw [e]
                exact ls (mk + 1) (i + 1) h4 o2 (by omega) (by omega) e3 hM (by omega)
          refine V.loc2 (lv' := [some _, some _, some _, some _, some _, none, none, none]) ⟨rfl, rfl, rfl, rfl, rfl, trivial⟩ ?_
          exact la ((bgn kd p q W (L i)) + 1) 0 h3 o2 (by omega) f3 hM (by omega)
        · have hai : av i = false := by
            have := hdz i (by omega)
            rw [c18, decide_eq_true (show i < mk by omega)] at this
            cases hx : av i with
            | false => rfl
            | true => rw [hx] at this; cases this
          refine V_goto (pc' := 164) hX dX8_spent_21 rfl ?_
          refine V_iincN (pc' := 167) (j := 1) (lv' := [_, _, _, _, _, _, _, _]) hX dX8_spent_164 rfl rfl rfl rfl ?_
          refine V_goto (pc' := 4) hX dX8_spent_167 rfl ?_
          refine V.loc2 (lv' := [some _, some _, some _, none, none, none, none, none]) ⟨rfl, rfl, rfl, trivial⟩ ?_
          first
            | (have e : ((prL av mk i).map (sbE kd p q W L)).sum + sm (fun a => sm ((cA kd p q W L av i) a) mk) a = ((prL av mk (i + 1)).map (sbE kd p q W L)).sum := by
                 rw [show a = (bgn kd p q W (L i)) by omega, prL_s, List.map_append, List.sum_append, spent_row hai (bgn_le kd p q W (L i))]
               rw [e]
               exact ihO (i + 1) _ _ _ (by omega) e3 hM (by omega))
            | (have e : ((prL av mk i).map (sbE kd p q W L)).sum = ((prL av mk (i + 1)).map (sbE kd p q W L)).sum := by rw [prL_s, prS_off hai, List.append_nil]
               rw [e]
               exact ih (i + 1) _ _ _ (by omega) b2 hM (by omega))
  refine V.loc2 (lv' := [some _, some _, some _, none, none, none, none, none]) ⟨rfl, rfl, rfl, trivial⟩ ?_
  exact lp (mk + 1) 0 h on tw (by omega) fr.rf hM (by omega)
set_option maxRecDepth 100000 in
set_option maxHeartbeats 4000000 in
theorem c_Md_pairs {G : Gd} {z : Nat} {h : AH} {y : Nat} {th : Int32} {mk : Nat} {ts : Nat} {fs : Nat} {kd : Nat} {p : Nat} {q : Nat} {len : Nat} {ks : Nat} {fm : Nat} {cm : Nat} {be : Nat} {dz : Nat → Bool} {mn : Nat → Nat} {st : Nat → Nat} {tn : Nat → Nat} {tv : Nat → Nat} {fn : Nat → Nat} {fv : Nat → Nat} {on : Nat → Nat} {tw : Nat → Nat} {bf : Nat → Nat} {g1 : Nat → Nat} {g2 : Nat → Nat} {g3 : Nat → Nat} {sv : Nat → Nat} {fa : Nat → Int32} {fy : Nat → Nat} {bs : Nat → Nat} {cf : Nat → Nat} {av : Nat → Bool} {M L : Nat → List Nat} {W F : Nat → Nat} (hI : mdI mk ts fs kd p q av M L W F dz mn st tn tv fn fv) (hM : mdC G h y th mk ts fs kd p q len ks fm cm be dz mn st tn tv fn fv on tw bf g1 g2 g3 sv fa fy bs cf)  : Ct G yX8_pairs cX8_pairs 4 (some .int) 4 0 0 [.ref y] z h (fun r' z' h' => z' = z ∧ fr y (y + 19) h h' ∧ ∃ on' tw' sv' k1 k2 k3 ks', svI kd p q W L sv' (prL av mk mk) ∧ sv' 5 = ((prL av mk mk).map (sbE kd p q W L)).sum ∧ ktOk (shE W L) (cnE kd p q W L (prL av mk mk) 0) k1 k2 k3 ks' ∧ r' = some (.int (nI ks')) ∧ mdC G h' y (nI 0) mk ts fs kd p q len (ks') fm cm be dz mn st tn tv fn fv (on') (tw') bf (k1) (k2) (k3) (sv') fa fy bs cf) := by
  refine Ct.of (lv := [_, _, _, _]) (by decide) (Nat.le_of_ble_eq_true rfl) rfl ?_
  rintro X rfl hX hR hnm
  obtain ⟨⟨hmk, hav, hdz⟩, hS, hT, hK, hL, hmo, hemp⟩ := id hI
  refine V_aload_n (pc' := 1) hX dX8_pairs_0 rfl rfl ?_
  refine V_iconst (pc' := 2) (v := nI 0) hX dX8_pairs_1 (by decide) rfl ?_
  refine V_put (pc' := 5) (fs' := [_, _, _, _, _, _, _, _, _, _, _, _, _, _, _, _, _, _, _, _, _, _, _, _, _, _, _, _, _, _]) (ty0 := tyX8) hX dX8_pairs_2 hM.1 rfl inX8 tyX8_ok nmX8 0 (by decide) wF_X8_75 rfl (tyX8_ok 0 (by decide)) rfl rfl (Nat.le_of_ble_eq_true rfl) rfl rfl ?_
  refine V.gen (fun h0 eh0 => ?_)
  have f0 := fr.of_up eh0
  have hM := hM.u0 (up_at eh0) f0
  have f0 := f0.mono (lo' := y) (hi' := y + 19) (by omega) (by omega)
  refine V_aload_n (pc' := 6) hX dX8_pairs_5 rfl rfl ?_
  refine V_iconst (pc' := 7) (v := nI 0) hX dX8_pairs_6 (by decide) rfl ?_
  refine V_put (pc' := 10) (fs' := [_, _, _, _, _, _, _, _, _, _, _, _, _, _, _, _, _, _, _, _, _, _, _, _, _, _, _, _, _, _]) (ty0 := tyX8) hX dX8_pairs_7 hM.1 rfl inX8 tyX8_ok nmX8 18 (by decide) wF_X8_179 rfl (tyX8_ok 18 (by decide)) rfl rfl (Nat.le_of_ble_eq_true rfl) rfl rfl ?_
  refine V.gen (fun h1 eh1 => ?_)
  have fh1 := fr.of_up eh1
  have hM := hM.u0 (up_at eh1) fh1
  have f0 := f0.tr (fh1.mono (lo' := y) (hi' := y + 19) (by omega) (by omega))
  refine V_iconst (pc' := 11) (v := nI 0) hX dX8_pairs_10 (by decide) rfl ?_
  refine V_istore_n (pc' := 12) (lv' := [_, _, _, _]) hX dX8_pairs_11 (Nat.le_of_ble_eq_true rfl) rfl rfl ?_
  have lz : ∀ (μ k : Nat) (h2 : AH) (sv2 : Nat → Nat), k ≤ 6 → (∀ j, j < k → sv2 j = 0) → fr y (y + 19) h h2 → mdC X.G h2 y (nI 0) mk ts fs kd p q len (0) fm cm be dz mn st tn tv fn fv on tw bf g1 g2 g3 (sv2) fa fy bs cf → 6 - k < μ → V X 0 0 z h2 12 [some (.ref y), some (.int (nI k)), none, none] [] := by
    intro μ
    induction μ with
    | zero => intros; omega
    | succ μ ih =>
      intro k h2 sv2 a1 a2 f0 hM a4
      refine V_iload_n (pc' := 13) hX dX8_pairs_12 rfl rfl ?_
      refine V_bipush (pc' := 15) (v := nI 6) hX dX8_pairs_13 (by decide) rfl ?_
      refine V_icmp_geN (pt := 31) (pc' := 18) hX dX8_pairs_15 (by omega) (by omega) rfl rfl (fun c15 => ?_) (fun c15 => ?_)
      · refine V_iconst (pc' := 32) (v := nI 0) hX dX8_pairs_31 (by decide) rfl ?_
        refine V_istore_n (pc' := 33) (lv' := [_, _, _, _]) hX dX8_pairs_32 (Nat.le_of_ble_eq_true rfl) rfl rfl ?_
        have lp : ∀ (μ i : Nat) (h3 : AH) (sv3 k1 k2 k3 : Nat → Nat) (ks3 : Nat) (o1 o2 : Nat → Nat), i ≤ mk → svI kd p q W L sv3 (prL av mk i) → ktOk (shE W L) (cnE kd p q W L (prL av mk i) 0) k1 k2 k3 ks3 → fr y (y + 19) h h3 → mdC X.G h3 y (nI 0) mk ts fs kd p q len (ks3) fm cm be dz mn st tn tv fn fv (o1) (o2) bf (k1) (k2) (k3) (sv3) fa fy bs cf → mk - i < μ → V X 0 0 z h3 33 [some (.ref y), some (.int (nI i)), none, none] [] := by
          intro μ
          induction μ with
          | zero => intros; omega
          | succ μ ih =>
            intro i h3 sv3 k1 k2 k3 ks3 o1 o2 b1 b2 b3 f0 hM b5
            refine V_iload_n (pc' := 34) hX dX8_pairs_33 rfl rfl ?_
            refine V_aload_n (pc' := 35) hX dX8_pairs_34 rfl rfl ?_
            refine V_get (pc' := 38) hX dX8_pairs_35 hM.1 rfl inX8 1 (by decide) wF_X8_78 rfl rfl ?_
            refine V_icmp_geN (pt := 156) (pc' := 41) hX dX8_pairs_38 (by omega) (by omega) rfl rfl (fun c38 => ?_) (fun c38 => ?_)
            · refine V_aload_n (pc' := 157) hX dX8_pairs_156 rfl rfl ?_
              refine V_get (pc' := 160) hX dX8_pairs_157 hM.1 rfl inX8 22 (by decide) wF_X8_60 rfl rfl ?_
              refine V_iconst (pc' := 161) (v := nI 5) hX dX8_pairs_160 (by decide) rfl ?_
              refine V_aload_n (pc' := 162) hX dX8_pairs_161 rfl rfl ?_
              refine V_callV (nA := 0) (pc' := 165) (k' := 0) (n' := 0) hX dX8_pairs_162 (c_Md_spent hI hM) hM.1 rfl wM_X8_186 wI_X8_spent wL_X8_spent wN_X8 wC_X8_spent rfl hy_X8_spent rfl (Nat.le_of_ble_eq_true rfl) (by decide) (by omega) rfl rfl (by omega) rfl (by omega) rfl ?_
              rintro _ z h9 ⟨rfl, rfl, f9, o9, o8, hM⟩
              have f0 := f0.tr (f9.mono (lo' := y) (hi' := y + 19) (by omega) (by omega))
              refine V.stk (st' := [_, _, _]) rfl ?_
              refine V_iastN (pc' := 166) hX dX8_pairs_165 hM.2.2.2.2.2.2.2.2.2.2.2.2.2.2.1 (by omega) (by omega) rfl ?_
              refine V.gen (fun hA ehA => ?_)
              have fhA := fr.of_up ehA
              have hM := hM.u14 (up_at ehA) fhA
              have f0 := f0.tr (fhA.mono (lo' := y) (hi' := y + 19) (by omega) (by omega))
              refine V_aload_n (pc' := 167) hX dX8_pairs_166 rfl rfl ?_
              refine V_get (pc' := 170) hX dX8_pairs_167 hM.1 rfl inX8 18 (by decide) wF_X8_179 rfl rfl ?_
              refine V_iret hX hR dX8_pairs_170 ?_
              have ei : i = mk := by omega
              subst ei
              exact ⟨rfl, f0, _, _, _, _, _, _, _, fun f hf => by rw [vu_ne _ _ (by have := mpW_lt f hf; omega)]; exact b2 f hf, vu_at _ _ _, b3, rfl, hM⟩
            · have ihO := ih
              refine V_iload_n (pc' := 42) hX dX8_pairs_41 rfl rfl ?_
              refine V_iconst (pc' := 43) (v := nI 1) hX dX8_pairs_42 (by decide) rfl ?_
              refine V_iaddN (pc' := 44) hX dX8_pairs_43 rfl ?_
              refine V_istore_n (pc' := 45) (lv' := [_, _, _, _]) hX dX8_pairs_44 (Nat.le_of_ble_eq_true rfl) rfl rfl ?_
              have lq : ∀ (ν s : Nat) (h4 : AH) (sv4 k4 k5 k6 : Nat → Nat) (ks4 : Nat) (o3 o4 : Nat → Nat), i < s → s ≤ mk → svI kd p q W L sv4 (prL av mk i ++ prS av i s) → ktOk (shE W L) (cnE kd p q W L (prL av mk i ++ prS av i s) 0) k4 k5 k6 ks4 → fr y (y + 19) h h4 → mdC X.G h4 y (nI 0) mk ts fs kd p q len (ks4) fm cm be dz mn st tn tv fn fv (o3) (o4) bf (k4) (k5) (k6) (sv4) fa fy bs cf → mk - s < ν → V X 0 0 z h4 45 [some (.ref y), some (.int (nI i)), some (.int (nI s)), none] [] := by
                intro μ
                induction μ with
                | zero => intros; omega
                | succ μ ih =>
                  intro s h4 sv4 k4 k5 k6 ks4 o3 o4 e0 e1 e2 e3 e5 hM e6
                  refine V_iload_n (pc' := 46) hX dX8_pairs_45 rfl rfl ?_
                  refine V_aload_n (pc' := 47) hX dX8_pairs_46 rfl rfl ?_
                  refine V_get (pc' := 50) hX dX8_pairs_47 hM.1 rfl inX8 1 (by decide) wF_X8_78 rfl rfl ?_
                  refine V_icmp_geN (pt := 150) (pc' := 53) hX dX8_pairs_50 (by omega) (by omega) rfl rfl (fun c50 => ?_) (fun c50 => ?_)
                  · refine V_iincN (pc' := 153) (j := 1) (lv' := [_, _, _, _]) hX dX8_pairs_150 rfl rfl rfl rfl ?_
                    refine V_goto (pc' := 33) hX dX8_pairs_153 rfl ?_
                    refine V.loc2 (lv' := [some _, some _, none, none]) ⟨rfl, rfl, trivial⟩ ?_
                    exact ihO (i + 1) _ _ _ _ _ _ _ _ (by omega) (by rw [prL_s, show mk = s by omega]; rw [show mk = s by omega] at e2; exact e2) (by rw [prL_s, show mk = s by omega]; rw [show mk = s by omega] at e3; exact e3) e5 hM (by omega)
                  · refine V_aload_n (pc' := 54) hX dX8_pairs_53 rfl rfl ?_
                    refine V_get (pc' := 57) hX dX8_pairs_54 hM.1 rfl inX8 2 (by decide) wF_X8_9 rfl rfl ?_
                    refine V_iload_n (pc' := 58) hX dX8_pairs_57 rfl rfl ?_
                    refine V_zaldN (pc' := 59) (v := bI (dz i)) hX dX8_pairs_58 hM.2.1 (by omega) (by omega) rfl rfl ?_
                    refine V_if_neB (pt := 144) (pc' := 62) hX dX8_pairs_59 rfl rfl (fun c59 => ?_) (fun c59 => ?_)
                    · have hai : av i = false := by
                        have := hdz i (by omega)
                        rw [c59, decide_eq_true (show i < mk by omega)] at this
                        cases hx : av i with
                        | false => rfl
                        | true => rw [hx] at this; cases this
                      have ep : prS av i (s + 1) = prS av i s := by rw [prS_s, if_neg (fun w => by have := w.2.1; rw [hai] at this; cases this), List.append_nil]
                      refine V_iincN (pc' := 147) (j := 1) (lv' := [_, _, _, _]) hX dX8_pairs_144 rfl rfl rfl rfl ?_
                      refine V_goto (pc' := 45) hX dX8_pairs_147 rfl ?_
                      refine V.loc2 (lv' := [some _, some _, some _, none]) ⟨rfl, rfl, rfl, trivial⟩ ?_
                      first
                        | exact ih (s + 1) _ _ _ _ _ _ _ _ (by omega) (by omega) (by rw [ep, ← List.append_assoc]; exact e2.snoc ewd hw5) (by rw [ep, ← List.append_assoc]; exact hkt9) e5 hM (by omega)
                        | exact ih (s + 1) _ _ _ _ _ _ _ _ (by omega) (by omega) (by rw [ep]; exact e2) (by rw [ep]; exact e3) e5 hM (by omega)
                    · have hai : av i = true := by
                        have := hdz i (by omega)
                        rw [c59, decide_eq_true (show i < mk by omega)] at this
                        cases hx : av i with
                        | true => rfl
                        | false => rw [hx] at this; cases this
                      refine V_aload_n (pc' := 63) hX dX8_pairs_62 rfl rfl ?_
                      refine V_get (pc' := 66) hX dX8_pairs_63 hM.1 rfl inX8 2 (by decide) wF_X8_9 rfl rfl ?_
                      refine V_iload_n (pc' := 67) hX dX8_pairs_66 rfl rfl ?_
                      refine V_zaldN (pc' := 68) (v := bI (dz s)) hX dX8_pairs_67 hM.2.1 (by omega) (by omega) rfl rfl ?_
                      refine V_if_eqB (pt := 74) (pc' := 71) hX dX8_pairs_68 rfl rfl (fun c68 => ?_) (fun c68 => ?_)
                      · have has : av s = true := by
                          have := hdz s (by omega)
                          rw [c68, decide_eq_true (show s < mk by omega)] at this
                          cases hx : av s with
                          | true => rfl
                          | false => rw [hx] at this; cases this
                        have ep : prS av i (s + 1) = prS av i s ++ [(i, s)] := by rw [prS_s, if_pos ⟨e0, hai, has⟩]
                        have hcnt : ks4 < 1770 := by
                          have h8 := e3.1
                          have h9 := prLS_len (al := av) hmk (r := i) (s := s) (by omega) (by omega)
                          have h7 : (cnE kd p q W L (prL av mk i ++ prS av i s) 0).length ≤ (prL av mk i ++ prS av i s).length := List.length_filter_le _ _
                          omega
                        refine V_aload_n (pc' := 75) hX dX8_pairs_74 rfl rfl ?_
                        refine V_iload_n (pc' := 76) hX dX8_pairs_75 rfl rfl ?_
                        refine V_iload_n (pc' := 77) hX dX8_pairs_76 rfl rfl ?_
                        refine V_callV (nA := 2) (pc' := 80) (k' := 0) (n' := 0) hX dX8_pairs_77 (c_Md_whyOf i s hai has hI hM) hM.1 rfl wM_X8_174 wI_X8_whyOf wL_X8_whyOf wN_X8 wC_X8_whyOf rfl hy_X8_whyOf rfl (Nat.le_of_ble_eq_true rfl) (by decide) (by omega) rfl rfl (by omega) rfl (by omega) rfl ?_
                        rintro _ z h5 ⟨rfl, rfl, f5, o5, o6, hM⟩
                        have e5 := e5.tr (f5.mono (lo' := y) (hi' := y + 19) (by omega) (by omega))
                        have hw5 : fdE kd p q W L (i, s) < 5 := fateN_lt _ _ _ _ _ _ _ _
                        obtain ⟨wy, ewy⟩ : ∃ wy, wy = whyN kd p q W (L i) (L s) := ⟨_, rfl⟩
                        rw [← ewy]
                        have ewd : fdE kd p q W L (i, s) = wy := ewy.symm
                        rw [ewd] at hw5
                        have hmp := mpW_lt wy hw5
                        refine V.stk (st' := [_]) rfl ?_
                        refine V_istore_n (pc' := 81) (lv' := [_, _, _, _]) hX dX8_pairs_80 (Nat.le_of_ble_eq_true rfl) rfl rfl ?_
                        have j1 :  V X 0 0 z h5 112 [some (.ref y), some (.int (nI i)), some (.int (nI s)), some (.int (nI wy))] [.int (nI (mpW wy)), .ref (y + 14)] := by
                          skip
                          refine V_dup2_11 (pc' := 113) hX dX8_pairs_112 rfl rfl rfl ?_
                          refine V_ialdN (pc' := 114) hX dX8_pairs_113 hM.2.2.2.2.2.2.2.2.2.2.2.2.2.2.1 (by omega) (by omega) rfl rfl ?_
                          refine V_iconst (pc' := 115) (v := nI 1) hX dX8_pairs_114 (by decide) rfl ?_
                          refine V_iaddN (pc' := 116) hX dX8_pairs_115 rfl ?_
                          refine V_iastN (pc' := 117) hX dX8_pairs_116 hM.2.2.2.2.2.2.2.2.2.2.2.2.2.2.1 (by omega) (by omega) rfl ?_
                          refine V.gen (fun h6 eh6 => ?_)
                          have f9 := fr.of_up eh6
                          have hM := hM.u14 (up_at eh6) f9
                          have e5 := e5.tr (f9.mono (lo' := y) (hi' := y + 19) (by omega) (by omega))
                          refine V_iload_n (pc' := 118) hX dX8_pairs_117 rfl rfl ?_
                          refine V_if_leN (pt := 124) (pc' := 121) hX dX8_pairs_118 (by omega) rfl rfl (fun c118 => ?_) (fun c118 => ?_)
                          · have hw0 : fdE kd p q W L (i, s) = 0 := by omega
                            have hkt9 := e3.snoc i s (shL W (L i) (L s)) rfl
                            rw [show [(i, s)] = (if fdE kd p q W L (i, s) = 0 then [(i, s)] else []) by rw [if_pos hw0], ← cnE_snoc] at hkt9
                            refine V_aload_n (pc' := 125) hX dX8_pairs_124 rfl rfl ?_
                            refine V_aload_n (pc' := 126) hX dX8_pairs_125 rfl rfl ?_
                            refine V_get (pc' := 129) hX dX8_pairs_126 hM.1 rfl inX8 18 (by decide) wF_X8_179 rfl rfl ?_
                            refine V_iload_n (pc' := 130) hX dX8_pairs_129 rfl rfl ?_
                            refine V_iload_n (pc' := 131) hX dX8_pairs_130 rfl rfl ?_
                            refine V_callV (nA := 3) (pc' := 134) (k' := 0) (n' := 0) hX dX8_pairs_131 (c_Md_keep ks4 i s (by omega) hai has hI hM) hM.1 rfl wM_X8_182 wI_X8_keep wL_X8_keep wN_X8 wC_X8_keep rfl hy_X8_keep rfl (Nat.le_of_ble_eq_true rfl) (by decide) (by omega) rfl rfl (by omega) rfl (by omega) rfl ?_
                            rintro _ z h7 ⟨rfl, rfl, f7, hM⟩
                            have e5 := e5.tr f7
                            refine V.stk (st' := []) rfl ?_
                            refine V_aload_n (pc' := 135) hX dX8_pairs_134 rfl rfl ?_
                            refine V_dup (pc' := 136) hX dX8_pairs_135 rfl rfl ?_
                            refine V_get (pc' := 139) hX dX8_pairs_136 hM.1 rfl inX8 18 (by decide) wF_X8_179 rfl rfl ?_
                            refine V_iconst (pc' := 140) (v := nI 1) hX dX8_pairs_139 (by decide) rfl ?_
                            refine V_iaddN (pc' := 141) hX dX8_pairs_140 rfl ?_
                            refine V_put (pc' := 144) (fs' := [_, _, _, _, _, _, _, _, _, _, _, _, _, _, _, _, _, _, _, _, _, _, _, _, _, _, _, _, _, _]) (ty0 := tyX8) hX dX8_pairs_141 hM.1 rfl inX8 tyX8_ok nmX8 18 (by decide) wF_X8_179 rfl (tyX8_ok 18 (by decide)) rfl rfl (Nat.le_of_ble_eq_true rfl) rfl rfl ?_
                            refine V.gen (fun h8 eh8 => ?_)
                            have f9 := fr.of_up eh8
                            have hM := hM.u0 (up_at eh8) f9
                            have e5 := e5.tr (f9.mono (lo' := y) (hi' := y + 19) (by omega) (by omega))
                            refine V_iincN (pc' := 147) (j := 1) (lv' := [_, _, _, _]) hX dX8_pairs_144 rfl rfl rfl rfl ?_
                            refine V_goto (pc' := 45) hX dX8_pairs_147 rfl ?_
                            refine V.loc2 (lv' := [some _, some _, some _, none]) ⟨rfl, rfl, rfl, trivial⟩ ?_
                            first
                              | exact ih (s + 1) _ _ _ _ _ _ _ _ (by omega) (by omega) (by rw [ep, ← List.append_assoc]; exact e2.snoc ewd hw5) (by rw [ep, ← List.append_assoc]; exact hkt9) e5 hM (by omega)
                              | exact ih (s + 1) _ _ _ _ _ _ _ _ (by omega) (by omega) (by rw [ep]; exact e2) (by rw [ep]; exact e3) e5 hM (by omega)
                          · have hw0 : ¬ fdE kd p q W L (i, s) = 0 := by omega
                            have hkt9 := e3
                            rw [← List.append_nil (cnE kd p q W L (prL av mk i ++ prS av i s) 0), show ([] : List (Nat × Nat)) = (if fdE kd p q W L (i, s) = 0 then [(i, s)] else []) by rw [if_neg hw0], ← cnE_snoc] at hkt9
                            refine V_goto (pc' := 144) hX dX8_pairs_121 rfl ?_
                            refine V_iincN (pc' := 147) (j := 1) (lv' := [_, _, _, _]) hX dX8_pairs_144 rfl rfl rfl rfl ?_
                            refine V_goto (pc' := 45) hX dX8_pairs_147 rfl ?_
                            refine V.loc2 (lv' := [some _, some _, some _, none]) ⟨rfl, rfl, rfl, trivial⟩ ?_
                            first
                              | exact ih (s + 1) _ _ _ _ _ _ _ _ (by omega) (by omega) (by rw [ep, ← List.append_assoc]; exact e2.snoc ewd hw5) (by rw [ep, ← List.append_assoc]; exact hkt9) e5 hM (by omega)
                              | exact ih (s + 1) _ _ _ _ _ _ _ _ (by omega) (by omega) (by rw [ep]; exact e2) (by rw [ep]; exact e3) e5 hM (by omega)
                        refine V_aload_n (pc' := 82) hX dX8_pairs_81 rfl rfl ?_
                        refine V_get (pc' := 85) hX dX8_pairs_82 hM.1 rfl inX8 22 (by decide) wF_X8_60 rfl rfl ?_
                        refine V_iload_n (pc' := 86) hX dX8_pairs_85 rfl rfl ?_
                        refine V_if_neN (pt := 93) (pc' := 89) hX dX8_pairs_86 (by omega) rfl rfl (fun c86 => ?_) (fun c86 => ?_)
                        · refine V_iload_n (pc' := 94) hX dX8_pairs_93 rfl rfl ?_
                          refine V_iconst (pc' := 95) (v := nI 4) hX dX8_pairs_94 (by decide) rfl ?_
                          refine V_icmp_neN (pt := 102) (pc' := 98) hX dX8_pairs_95 (by omega) (by omega) rfl rfl (fun c95 => ?_) (fun c95 => ?_)
                          · refine V_iload_n (pc' := 103) hX dX8_pairs_102 rfl rfl ?_
                            refine V_iconst (pc' := 104) (v := nI 1) hX dX8_pairs_103 (by decide) rfl ?_
                            refine V_icmp_neN (pt := 111) (pc' := 107) hX dX8_pairs_104 (by omega) (by omega) rfl rfl (fun c104 => ?_) (fun c104 => ?_)
                            · refine V_iload_n (pc' := 112) hX dX8_pairs_111 rfl rfl ?_
                              have j := j1
                              first
                                | (rw [show mpW wy = 0 by unfold mpW; rw [if_pos c86]] at j; exact j)
                                | (rw [show mpW wy = 1 by unfold mpW; rw [if_neg c86, if_pos c95]] at j; exact j)
                                | (rw [show mpW wy = 4 by unfold mpW; rw [if_neg c86, if_neg c95, if_pos c104]] at j; exact j)
                                | (rw [show mpW wy = wy by unfold mpW; rw [if_neg c86, if_neg c95, if_neg c104]] at j; exact j)
                            · refine V_iconst (pc' := 108) (v := nI 4) hX dX8_pairs_107 (by decide) rfl ?_
                              refine V_goto (pc' := 112) hX dX8_pairs_108 rfl ?_
                              have j := j1
                              first
                                | (rw [show mpW wy = 0 by unfold mpW; rw [if_pos c86]] at j; exact j)
                                | (rw [show mpW wy = 1 by unfold mpW; rw [if_neg c86, if_pos c95]] at j; exact j)
                                | (rw [show mpW wy = 4 by unfold mpW; rw [if_neg c86, if_neg c95, if_pos c104]] at j; exact j)
                                | (rw [show mpW wy = wy by unfold mpW; rw [if_neg c86, if_neg c95, if_neg c104]] at j; exact j)
                          · refine V_iconst (pc' := 99) (v := nI 1) hX dX8_pairs_98 (by decide) rfl ?_
                            refine V_goto (pc' := 112) hX dX8_pairs_99 rfl ?_
                            have j := j1
                            first
                              | (rw [show mpW wy = 0 by unfold mpW; rw [if_pos c86]] at j; exact j)
                              | (rw [show mpW wy = 1 by unfold mpW; rw [if_neg c86, if_pos c95]] at j; exact j)
                              | (rw [show mpW wy = 4 by unfold mpW; rw [if_neg c86, if_neg c95, if_pos c104]] at j; exact j)
                              | (rw [show mpW wy = wy by unfold mpW; rw [if_neg c86, if_neg c95, if_neg c104]] at j; exact j)
                        · refine V_iconst (pc' := 90) (v := nI 0) hX dX8_pairs_89 (by decide) rfl ?_
                          refine V_goto (pc' := 112) hX dX8_pairs_90 rfl ?_
                          have j := j1
                          first
                            | (rw [show mpW wy = 0 by unfold mpW; rw [if_pos c86]] at j; exact j)
                            | (rw [show mpW wy = 1 by unfold mpW; rw [if_neg c86, if_pos c95]] at j; exact j)
                            | (rw [show mpW wy = 4 by unfold mpW; rw [if_neg c86, if_neg c95, if_pos c104]] at j; exact j)
                            | (rw [show mpW wy = wy by unfold mpW; rw [if_neg c86, if_neg c95, if_neg c104]] at j; exact j)
                      · have has : av s = false := by
                          have := hdz s (by omega)
                          rw [c68, decide_eq_true (show s < mk by omega)] at this
                          cases hx : av s with
                          | false => rfl
                          | true => rw [hx] at this; cases this
                        have ep : prS av i (s + 1) = prS av i s := by rw [prS_s, if_neg (fun w => by have := w.2.2; rw [has] at this; cases this), List.append_nil]
                        refine V_goto (pc' := 144) hX dX8_pairs_71 rfl ?_
                        refine V_iincN (pc' := 147) (j := 1) (lv' := [_, _, _, _]) hX dX8_pairs_144 rfl rfl rfl rfl ?_
                        refine V_goto (pc' := 45) hX dX8_pairs_147 rfl ?_
                        refine V.loc2 (lv' := [some _, some _, some _, none]) ⟨rfl, rfl, rfl, trivial⟩ ?_
                        first
                          | exact ih (s + 1) _ _ _ _ _ _ _ _ (by omega) (by omega) (by rw [ep, ← List.append_assoc]; exact e2.snoc ewd hw5) (by rw [ep, ← List.append_assoc]; exact hkt9) e5 hM (by omega)
                          | exact ih (s + 1) _ _ _ _ _ _ _ _ (by omega) (by omega) (by rw [ep]; exact e2) (by rw [ep]; exact e3) e5 hM (by omega)
              refine V.loc2 (lv' := [some _, some _, some _, none]) ⟨rfl, rfl, rfl, trivial⟩ ?_
              exact lq (mk + 1) (i + 1) h3 sv3 k1 k2 k3 ks3 o1 o2 (by omega) (by omega) (by rw [prS_nil (Nat.le_refl _), List.append_nil]; exact b2) (by rw [prS_nil (Nat.le_refl _), List.append_nil]; exact b3) f0 hM (by omega)
        refine V.loc2 (lv' := [some _, some _, none, none]) ⟨rfl, rfl, trivial⟩ ?_
        exact lp (mk + 1) 0 h2 sv2 g1 g2 g3 0 on tw (by omega) (fun f hf => a2 _ (by have := mpW_lt f hf; omega)) ⟨rfl, fun j hj => by omega⟩ f0 hM (by omega)
      · refine V_aload_n (pc' := 19) hX dX8_pairs_18 rfl rfl ?_
        refine V_get (pc' := 22) hX dX8_pairs_19 hM.1 rfl inX8 22 (by decide) wF_X8_60 rfl rfl ?_
        refine V_iload_n (pc' := 23) hX dX8_pairs_22 rfl rfl ?_
        refine V_iconst (pc' := 24) (v := nI 0) hX dX8_pairs_23 (by decide) rfl ?_
        refine V_iastN (pc' := 25) hX dX8_pairs_24 hM.2.2.2.2.2.2.2.2.2.2.2.2.2.2.1 (by omega) (by omega) rfl ?_
        refine V.gen (fun h3 eh3 => ?_)
        have fh3 := fr.of_up eh3
        have hM := hM.u14 (up_at eh3) fh3
        have f0 := f0.tr (fh3.mono (lo' := y) (hi' := y + 19) (by omega) (by omega))
        refine V_iincN (pc' := 28) (j := 1) (lv' := [_, _, _, _]) hX dX8_pairs_25 rfl rfl rfl rfl ?_
        refine V_goto (pc' := 12) hX dX8_pairs_28 rfl ?_
        refine V.loc2 (lv' := [some _, some _, none, none]) ⟨rfl, rfl, trivial⟩ ?_
        exact ih (k + 1) _ _ (by omega) (fun j hj => by
          by_cases e : j = k
          · rw [e, vu_at]
          · rw [vu_ne _ _ e]; exact a2 j (by omega)) f0 hM (by omega)
  refine V.loc2 (lv' := [some _, some _, none, none]) ⟨rfl, rfl, trivial⟩ ?_
  exact lz 7 0 h1 sv (by omega) (fun j hj => by omega) f0 hM (by omega)
set_option maxRecDepth 100000 in
set_option maxHeartbeats 4000000 in
theorem c_Md_pair {G : Gd} {z : Nat} {h : AH} {y : Nat} {th : Int32} {mk : Nat} {ts : Nat} {fs : Nat} {kd : Nat} {p : Nat} {q : Nat} {len : Nat} {ks : Nat} {fm : Nat} {cm : Nat} {be : Nat} {dz : Nat → Bool} {mn : Nat → Nat} {st : Nat → Nat} {tn : Nat → Nat} {tv : Nat → Nat} {fn : Nat → Nat} {fv : Nat → Nat} {on : Nat → Nat} {tw : Nat → Nat} {bf : Nat → Nat} {g1 : Nat → Nat} {g2 : Nat → Nat} {g3 : Nat → Nat} {sv : Nat → Nat} {fa : Nat → Int32} {fy : Nat → Nat} {bs : Nat → Nat} {cf : Nat → Nat} (i w : Int32) (hks : ks ≤ 1770) (hM : mdC G h y th mk ts fs kd p q len ks fm cm be dz mn st tn tv fn fv on tw bf g1 g2 g3 sv fa fy bs cf)  : Ct G yX8_pair cX8_pair 3 (some .int) 1 0 0 [.ref y, .int i, .int w] z h (fun r' z' h' => z' = z ∧ fr y (y + 19) h h' ∧ ((¬ (0 ≤ i.toInt ∧ i.toInt < (ks : Int) ∧ 0 ≤ w.toInt ∧ w.toInt ≤ 2) ∧ r' = some (.int (nI 0)) ∧ mdC G h' y (nI 1) mk ts fs kd p q len ks fm cm be dz mn st tn tv fn fv on tw bf g1 g2 g3 sv fa fy bs cf) ∨ ∃ j v, i = nI j ∧ j < ks ∧ w = nI v ∧ v ≤ 2 ∧ r' = some (.int (nI (if v = 0 then g1 j else if v = 1 then g2 j else g3 j))) ∧ mdC G h' y (nI 0) mk ts fs kd p q len ks fm cm be dz mn st tn tv fn fv on tw bf g1 g2 g3 sv fa fy bs cf)) := by
  refine Ct.of (lv := [_, _, _]) (by decide) (Nat.le_of_ble_eq_true rfl) rfl ?_
  rintro X rfl hX hR hnm
  have f0 : fr y (y + 19) h h := fr.rf
  have z0 : (nI 0).toInt = 0 := by decide
  have z2 : (nI 2).toInt = 2 := by decide
  refine V_aload_n (pc' := 1) hX dX8_pair_0 rfl rfl ?_
  refine V_iload_n (pc' := 2) hX dX8_pair_1 rfl rfl ?_
  refine V_iconst (pc' := 3) (v := nI 0) hX dX8_pair_2 (by decide) rfl ?_
  refine V_aload_n (pc' := 4) hX dX8_pair_3 rfl rfl ?_
  refine V_get (pc' := 7) hX dX8_pair_4 hM.1 rfl inX8 18 (by decide) wF_X8_179 rfl rfl ?_
  refine V_iconst (pc' := 8) (v := nI 1) hX dX8_pair_7 (by decide) rfl ?_
  refine V_isub (pc' := 9) hX dX8_pair_8 rfl ?_
  refine V_callS (nA := 3) (pc' := 12) (k' := 0) (n' := 0) hX dX8_pair_9 (c_Md_in i (nI 0) (nI ks - nI 1)) wM_X8_81 wS_X8_in wN_X8 wC_X8_in rfl hy_X8_in rfl (Nat.le_of_ble_eq_true rfl) (by decide) (by omega) rfl rfl (by omega) rfl (by omega) rfl ?_
  rintro _ z h ⟨rfl, rfl, rfl⟩
  rw [nIm1 (show ks < 2 ^ 31 by omega), z0]
  refine V.stk (st' := [_, _]) rfl ?_
  refine V_if_eqB (pt := 28) (pc' := 15) hX dX8_pair_12 rfl rfl (fun c12 => ?_) (fun c12 => ?_)
  · refine V_iconst (pc' := 29) (v := nI 1) hX dX8_pair_28 (by decide) rfl ?_
    refine V_put (pc' := 32) (fs' := [_, _, _, _, _, _, _, _, _, _, _, _, _, _, _, _, _, _, _, _, _, _, _, _, _, _, _, _, _, _]) (ty0 := tyX8) hX dX8_pair_29 hM.1 rfl inX8 tyX8_ok nmX8 0 (by decide) wF_X8_75 rfl (tyX8_ok 0 (by decide)) rfl rfl (Nat.le_of_ble_eq_true rfl) rfl rfl ?_
    refine V.gen (fun h1 eh1 => ?_)
    have fh1 := fr.of_up eh1
    have hM := hM.u0 (up_at eh1) fh1
    have f0 := f0.tr (fh1.mono (lo' := y) (hi' := y + 19) (by omega) (by omega))
    refine V_aload_n (pc' := 33) hX dX8_pair_32 rfl rfl ?_
    refine V_get (pc' := 36) hX dX8_pair_33 hM.1 rfl inX8 0 (by decide) wF_X8_75 rfl rfl ?_
    refine V_if_leN (pt := 41) (pc' := 39) hX dX8_pair_36 (by omega) rfl rfl (fun c36 => ?_) (fun c36 => ?_)
    · exfalso; omega
    · refine V_iconst (pc' := 40) (v := nI 0) hX dX8_pair_39 (by decide) rfl ?_
      refine V_iret hX hR dX8_pair_40 ?_
      refine ⟨rfl, f0, Or.inl ⟨?_, rfl, hM⟩⟩
      first
        | (have hc := of_decide_eq_false c12; omega)
        | (have hc := of_decide_eq_false c21; omega)
  · refine V_iload_n (pc' := 16) hX dX8_pair_15 rfl rfl ?_
    refine V_iconst (pc' := 17) (v := nI 0) hX dX8_pair_16 (by decide) rfl ?_
    refine V_iconst (pc' := 18) (v := nI 2) hX dX8_pair_17 (by decide) rfl ?_
    refine V_callS (nA := 3) (pc' := 21) (k' := 0) (n' := 0) hX dX8_pair_18 (c_Md_in w (nI 0) (nI 2)) wM_X8_81 wS_X8_in wN_X8 wC_X8_in rfl hy_X8_in rfl (Nat.le_of_ble_eq_true rfl) (by decide) (by omega) rfl rfl (by omega) rfl (by omega) rfl ?_
    rintro _ z h ⟨rfl, rfl, rfl⟩
    rw [z0, z2]
    refine V.stk (st' := [_, _]) rfl ?_
    refine V_if_eqB (pt := 28) (pc' := 24) hX dX8_pair_21 rfl rfl (fun c21 => ?_) (fun c21 => ?_)
    · refine V_iconst (pc' := 29) (v := nI 1) hX dX8_pair_28 (by decide) rfl ?_
      refine V_put (pc' := 32) (fs' := [_, _, _, _, _, _, _, _, _, _, _, _, _, _, _, _, _, _, _, _, _, _, _, _, _, _, _, _, _, _]) (ty0 := tyX8) hX dX8_pair_29 hM.1 rfl inX8 tyX8_ok nmX8 0 (by decide) wF_X8_75 rfl (tyX8_ok 0 (by decide)) rfl rfl (Nat.le_of_ble_eq_true rfl) rfl rfl ?_
      refine V.gen (fun h1 eh1 => ?_)
      have fh1 := fr.of_up eh1
      have hM := hM.u0 (up_at eh1) fh1
      have f0 := f0.tr (fh1.mono (lo' := y) (hi' := y + 19) (by omega) (by omega))
      refine V_aload_n (pc' := 33) hX dX8_pair_32 rfl rfl ?_
      refine V_get (pc' := 36) hX dX8_pair_33 hM.1 rfl inX8 0 (by decide) wF_X8_75 rfl rfl ?_
      refine V_if_leN (pt := 41) (pc' := 39) hX dX8_pair_36 (by omega) rfl rfl (fun c36 => ?_) (fun c36 => ?_)
      · exfalso; omega
      · refine V_iconst (pc' := 40) (v := nI 0) hX dX8_pair_39 (by decide) rfl ?_
        refine V_iret hX hR dX8_pair_40 ?_
        refine ⟨rfl, f0, Or.inl ⟨?_, rfl, hM⟩⟩
        first
          | (have hc := of_decide_eq_false c12; omega)
          | (have hc := of_decide_eq_false c21; omega)
    · refine V_iconst (pc' := 25) (v := nI 0) hX dX8_pair_24 (by decide) rfl ?_
      refine V_goto (pc' := 29) hX dX8_pair_25 rfl ?_
      refine V_put (pc' := 32) (fs' := [_, _, _, _, _, _, _, _, _, _, _, _, _, _, _, _, _, _, _, _, _, _, _, _, _, _, _, _, _, _]) (ty0 := tyX8) hX dX8_pair_29 hM.1 rfl inX8 tyX8_ok nmX8 0 (by decide) wF_X8_75 rfl (tyX8_ok 0 (by decide)) rfl rfl (Nat.le_of_ble_eq_true rfl) rfl rfl ?_
      refine V.gen (fun h1 eh1 => ?_)
      have fh1 := fr.of_up eh1
      have hM := hM.u0 (up_at eh1) fh1
      have f0 := f0.tr (fh1.mono (lo' := y) (hi' := y + 19) (by omega) (by omega))
      refine V_aload_n (pc' := 33) hX dX8_pair_32 rfl rfl ?_
      refine V_get (pc' := 36) hX dX8_pair_33 hM.1 rfl inX8 0 (by decide) wF_X8_75 rfl rfl ?_
      refine V_if_leN (pt := 41) (pc' := 39) hX dX8_pair_36 (by omega) rfl rfl (fun c36 => ?_) (fun c36 => ?_)
      · have hc := of_decide_eq_true c12
        have hd := of_decide_eq_true c21
        obtain ⟨j, hj31, rfl⟩ := nI_of (x := i) (by rw [i32_lt]; show ¬ _ < (0 : Int); omega)
        obtain ⟨v, hv31, rfl⟩ := nI_of (x := w) (by rw [i32_lt]; show ¬ _ < (0 : Int); omega)
        rw [nI_toInt hj31] at hc
        rw [nI_toInt hv31] at hd
        refine V_iload_n (pc' := 42) hX dX8_pair_41 rfl rfl ?_
        refine V_if_neN (pt := 54) (pc' := 45) hX dX8_pair_42 (by omega) rfl rfl (fun c42 => ?_) (fun c42 => ?_)
        · refine V_iload_n (pc' := 55) hX dX8_pair_54 rfl rfl ?_
          refine V_iconst (pc' := 56) (v := nI 1) hX dX8_pair_55 (by decide) rfl ?_
          refine V_icmp_neN (pt := 68) (pc' := 59) hX dX8_pair_56 (by omega) (by omega) rfl rfl (fun c56 => ?_) (fun c56 => ?_)
          · refine V_aload_n (pc' := 69) hX dX8_pair_68 rfl rfl ?_
            refine V_get (pc' := 72) hX dX8_pair_69 hM.1 rfl inX8 21 (by decide) wF_X8_57 rfl rfl ?_
            refine V_iload_n (pc' := 73) hX dX8_pair_72 rfl rfl ?_
            refine V_ialdN (pc' := 74) hX dX8_pair_73 hM.2.2.2.2.2.2.2.2.2.2.2.2.2.1 (by omega) (by omega) rfl rfl ?_
            refine V_iret hX hR dX8_pair_74 ?_
            exact ⟨rfl, f0, Or.inr ⟨j, v, rfl, by omega, rfl, by omega, by rw [if_neg c42, if_neg c56], hM⟩⟩
          · refine V_aload_n (pc' := 60) hX dX8_pair_59 rfl rfl ?_
            refine V_get (pc' := 63) hX dX8_pair_60 hM.1 rfl inX8 20 (by decide) wF_X8_54 rfl rfl ?_
            refine V_iload_n (pc' := 64) hX dX8_pair_63 rfl rfl ?_
            refine V_ialdN (pc' := 65) hX dX8_pair_64 hM.2.2.2.2.2.2.2.2.2.2.2.2.1 (by omega) (by omega) rfl rfl ?_
            refine V_goto (pc' := 74) hX dX8_pair_65 rfl ?_
            refine V_iret hX hR dX8_pair_74 ?_
            exact ⟨rfl, f0, Or.inr ⟨j, v, rfl, by omega, rfl, by omega, by rw [if_neg c42, if_pos c56], hM⟩⟩
        · refine V_aload_n (pc' := 46) hX dX8_pair_45 rfl rfl ?_
          refine V_get (pc' := 49) hX dX8_pair_46 hM.1 rfl inX8 19 (by decide) wF_X8_51 rfl rfl ?_
          refine V_iload_n (pc' := 50) hX dX8_pair_49 rfl rfl ?_
          refine V_ialdN (pc' := 51) hX dX8_pair_50 hM.2.2.2.2.2.2.2.2.2.2.2.1 (by omega) (by omega) rfl rfl ?_
          refine V_goto (pc' := 74) hX dX8_pair_51 rfl ?_
          refine V_iret hX hR dX8_pair_74 ?_
          exact ⟨rfl, f0, Or.inr ⟨j, v, rfl, by omega, rfl, by omega, by rw [if_pos c42], hM⟩⟩
      · exfalso; omega
set_option maxRecDepth 100000 in
set_option maxHeartbeats 4000000 in
theorem c_Md_isLiker {G : Gd} {z : Nat} {h : AH} {y : Nat} {th : Int32} {mk : Nat} {ts : Nat} {fs : Nat} {kd : Nat} {p : Nat} {q : Nat} {len : Nat} {ks : Nat} {fm : Nat} {cm : Nat} {be : Nat} {dz : Nat → Bool} {mn : Nat → Nat} {st : Nat → Nat} {tn : Nat → Nat} {tv : Nat → Nat} {fn : Nat → Nat} {fv : Nat → Nat} {on : Nat → Nat} {tw : Nat → Nat} {bf : Nat → Nat} {g1 : Nat → Nat} {g2 : Nat → Nat} {g3 : Nat → Nat} {sv : Nat → Nat} {fa : Nat → Int32} {fy : Nat → Nat} {bs : Nat → Nat} {cf : Nat → Nat} {av : Nat → Bool} {M L : Nat → List Nat} {W F : Nat → Nat} (r s t u : Nat) (hr : av r = true) (hs : av s = true) (ht : av t = true) (hu : av u = true) (hI : mdI mk ts fs kd p q av M L W F dz mn st tn tv fn fv) (hM : mdC G h y th mk ts fs kd p q len ks fm cm be dz mn st tn tv fn fv on tw bf g1 g2 g3 sv fa fy bs cf)  : Ct G yX8_isLiker cX8_isLiker 17 (some .boolean) 2 0 0 [.ref y, .int (nI r), .int (nI s), .int (nI t), .int (nI u)] z h (fun r' z' h' => r' = some (.int (bI (lkE kd W L (r, s) (t, u)))) ∧ z' = z ∧ h' = h) := by
  refine Ct.of (lv := [_, _, _, _, _, _, _, _, _, _, _, _, _, _, _, _, _]) (by decide) (Nat.le_of_ble_eq_true rfl) rfl ?_
  rintro X rfl hX hR hnm
  obtain ⟨⟨hmk, hav, hdz⟩, hS, hT, hK, hL, hmo, hemp⟩ := id hI
  have a1 := hI.am hr
  have a2 := hI.am hs
  have a3 := hI.am ht
  have a4 := hI.am hu
  have c1 : (shL W (L r) (L s)) ≤ (amL W (L r)) := shL_le W (L r) (L s)
  have c2 : (shL W (L t) (L u)) ≤ (amL W (L t)) := shL_le W (L t) (L u)
  have l1 := aboveN_bd (kd := kd) (s := (shL W (L r) (L s))) (by omega)
  have l2 := belowN_bd (kd := kd) (s := (shL W (L r) (L s))) a1 a2
  have l3 := aboveN_bd (kd := kd) (s := (shL W (L t) (L u))) (by omega)
  have l4 := belowN_bd (kd := kd) (s := (shL W (L t) (L u))) a3 a4
  have l5 : aboveN kd (shL W (L r) (L s)) * belowN kd (amL W (L t)) (amL W (L u)) (shL W (L t) (L u)) ≤ 9000000 * 9000000 := mul_bd l1 l4
  have l6 : aboveN kd (shL W (L t) (L u)) * belowN kd (amL W (L r)) (amL W (L s)) (shL W (L r) (L s)) ≤ 9000000 * 9000000 := mul_bd l3 l2
  refine V_aload_n (pc' := 1) hX dX8_isLiker_0 rfl rfl ?_
  refine V_iload_n (pc' := 2) hX dX8_isLiker_1 rfl rfl ?_
  refine V_callV (nA := 1) (pc' := 5) (k' := 0) (n' := 0) hX dX8_isLiker_2 (c_Md_amountOf r hr hI hM) hM.1 rfl wM_X8_136 wI_X8_amountOf wL_X8_amountOf wN_X8 wC_X8_amountOf rfl hy_X8_amountOf rfl (Nat.le_of_ble_eq_true rfl) (by decide) (by omega) rfl rfl (by omega) rfl (by omega) rfl ?_
  rintro _ z h ⟨rfl, rfl, rfl⟩
  refine V.stk (st' := [_]) rfl ?_
  refine V_i2lN (pc' := 6) hX dX8_isLiker_5 (by omega) rfl ?_
  refine V_lstore (pc' := 8) (lv' := [_, _, _, _, _, _, _, _, _, _, _, _, _, _, _, _, _]) hX dX8_isLiker_6 (Nat.le_of_ble_eq_true rfl) rfl rfl ?_
  refine V_aload_n (pc' := 9) hX dX8_isLiker_8 rfl rfl ?_
  refine V_iload_n (pc' := 10) hX dX8_isLiker_9 rfl rfl ?_
  refine V_callV (nA := 1) (pc' := 13) (k' := 0) (n' := 0) hX dX8_isLiker_10 (c_Md_amountOf s hs hI hM) hM.1 rfl wM_X8_136 wI_X8_amountOf wL_X8_amountOf wN_X8 wC_X8_amountOf rfl hy_X8_amountOf rfl (Nat.le_of_ble_eq_true rfl) (by decide) (by omega) rfl rfl (by omega) rfl (by omega) rfl ?_
  rintro _ z h ⟨rfl, rfl, rfl⟩
  refine V.stk (st' := [_]) rfl ?_
  refine V_i2lN (pc' := 14) hX dX8_isLiker_13 (by omega) rfl ?_
  refine V_lstore (pc' := 16) (lv' := [_, _, _, _, _, _, _, _, _, _, _, _, _, _, _, _, _]) hX dX8_isLiker_14 (Nat.le_of_ble_eq_true rfl) rfl rfl ?_
  refine V_aload_n (pc' := 17) hX dX8_isLiker_16 rfl rfl ?_
  refine V_iload_n (pc' := 18) hX dX8_isLiker_17 rfl rfl ?_
  refine V_iload_n (pc' := 19) hX dX8_isLiker_18 rfl rfl ?_
  refine V_callV (nA := 2) (pc' := 22) (k' := 0) (n' := 0) hX dX8_isLiker_19 (c_Md_shared r s hr hs hI hM) hM.1 rfl wM_X8_139 wI_X8_shared wL_X8_shared wN_X8 wC_X8_shared rfl hy_X8_shared rfl (Nat.le_of_ble_eq_true rfl) (by decide) (by omega) rfl rfl (by omega) rfl (by omega) rfl ?_
  rintro _ z h ⟨rfl, rfl, rfl⟩
  refine V.stk (st' := [_]) rfl ?_
  refine V_i2lN (pc' := 23) hX dX8_isLiker_22 (by omega) rfl ?_
  refine V_lstore (pc' := 25) (lv' := [_, _, _, _, _, _, _, _, _, _, _, _, _, _, _, _, _]) hX dX8_isLiker_23 (Nat.le_of_ble_eq_true rfl) rfl rfl ?_
  refine V_aload_n (pc' := 26) hX dX8_isLiker_25 rfl rfl ?_
  refine V_iload_n (pc' := 27) hX dX8_isLiker_26 rfl rfl ?_
  refine V_callV (nA := 1) (pc' := 30) (k' := 0) (n' := 0) hX dX8_isLiker_27 (c_Md_amountOf t ht hI hM) hM.1 rfl wM_X8_136 wI_X8_amountOf wL_X8_amountOf wN_X8 wC_X8_amountOf rfl hy_X8_amountOf rfl (Nat.le_of_ble_eq_true rfl) (by decide) (by omega) rfl rfl (by omega) rfl (by omega) rfl ?_
  rintro _ z h ⟨rfl, rfl, rfl⟩
  refine V.stk (st' := [_]) rfl ?_
  refine V_i2lN (pc' := 31) hX dX8_isLiker_30 (by omega) rfl ?_
  refine V_lstore (pc' := 33) (lv' := [_, _, _, _, _, _, _, _, _, _, _, _, _, _, _, _, _]) hX dX8_isLiker_31 (Nat.le_of_ble_eq_true rfl) rfl rfl ?_
  refine V_aload_n (pc' := 34) hX dX8_isLiker_33 rfl rfl ?_
  refine V_iload (pc' := 36) hX dX8_isLiker_34 rfl rfl ?_
  refine V_callV (nA := 1) (pc' := 39) (k' := 0) (n' := 0) hX dX8_isLiker_36 (c_Md_amountOf u hu hI hM) hM.1 rfl wM_X8_136 wI_X8_amountOf wL_X8_amountOf wN_X8 wC_X8_amountOf rfl hy_X8_amountOf rfl (Nat.le_of_ble_eq_true rfl) (by decide) (by omega) rfl rfl (by omega) rfl (by omega) rfl ?_
  rintro _ z h ⟨rfl, rfl, rfl⟩
  refine V.stk (st' := [_]) rfl ?_
  refine V_i2lN (pc' := 40) hX dX8_isLiker_39 (by omega) rfl ?_
  refine V_lstore (pc' := 42) (lv' := [_, _, _, _, _, _, _, _, _, _, _, _, _, _, _, _, _]) hX dX8_isLiker_40 (Nat.le_of_ble_eq_true rfl) rfl rfl ?_
  refine V_aload_n (pc' := 43) hX dX8_isLiker_42 rfl rfl ?_
  refine V_iload_n (pc' := 44) hX dX8_isLiker_43 rfl rfl ?_
  refine V_iload (pc' := 46) hX dX8_isLiker_44 rfl rfl ?_
  refine V_callV (nA := 2) (pc' := 49) (k' := 0) (n' := 0) hX dX8_isLiker_46 (c_Md_shared t u ht hu hI hM) hM.1 rfl wM_X8_139 wI_X8_shared wL_X8_shared wN_X8 wC_X8_shared rfl hy_X8_shared rfl (Nat.le_of_ble_eq_true rfl) (by decide) (by omega) rfl rfl (by omega) rfl (by omega) rfl ?_
  rintro _ z h ⟨rfl, rfl, rfl⟩
  refine V.stk (st' := [_]) rfl ?_
  refine V_i2lN (pc' := 50) hX dX8_isLiker_49 (by omega) rfl ?_
  refine V_lstore (pc' := 52) (lv' := [_, _, _, _, _, _, _, _, _, _, _, _, _, _, _, _, _]) hX dX8_isLiker_50 (Nat.le_of_ble_eq_true rfl) rfl rfl ?_
  refine V_aload_n (pc' := 53) hX dX8_isLiker_52 rfl rfl ?_
  refine V_lload (pc' := 55) hX dX8_isLiker_53 rfl rfl ?_
  refine V_lload (pc' := 57) hX dX8_isLiker_55 rfl rfl ?_
  refine V_lload (pc' := 59) hX dX8_isLiker_57 rfl rfl ?_
  refine V_callV (nA := 3) (pc' := 62) (k' := 0) (n' := 0) hX dX8_isLiker_59 (c_Md_above (amL W (L r)) (amL W (L s)) (shL W (L r) (L s)) (by omega) hmo hM) hM.1 rfl wM_X8_142 wI_X8_above wL_X8_above wN_X8 wC_X8_above rfl hy_X8_above rfl (Nat.le_of_ble_eq_true rfl) (by decide) (by omega) rfl rfl (by omega) rfl (by omega) rfl ?_
  rintro _ z h ⟨rfl, rfl, rfl⟩
  refine V.stk (st' := [_]) rfl ?_
  refine V_aload_n (pc' := 63) hX dX8_isLiker_62 rfl rfl ?_
  refine V_lload (pc' := 65) hX dX8_isLiker_63 rfl rfl ?_
  refine V_lload (pc' := 67) hX dX8_isLiker_65 rfl rfl ?_
  refine V_lload (pc' := 69) hX dX8_isLiker_67 rfl rfl ?_
  refine V_callV (nA := 3) (pc' := 72) (k' := 0) (n' := 0) hX dX8_isLiker_69 (c_Md_below (amL W (L t)) (amL W (L u)) (shL W (L t) (L u)) (by omega) a3 a4 hmo hM) hM.1 rfl wM_X8_146 wI_X8_below wL_X8_below wN_X8 wC_X8_below rfl hy_X8_below rfl (Nat.le_of_ble_eq_true rfl) (by decide) (by omega) rfl rfl (by omega) rfl (by omega) rfl ?_
  rintro _ z h ⟨rfl, rfl, rfl⟩
  refine V.stk (st' := [_, _]) rfl ?_
  refine V_lmulN (pc' := 73) hX dX8_isLiker_72 rfl ?_
  refine V_aload_n (pc' := 74) hX dX8_isLiker_73 rfl rfl ?_
  refine V_lload (pc' := 76) hX dX8_isLiker_74 rfl rfl ?_
  refine V_lload (pc' := 78) hX dX8_isLiker_76 rfl rfl ?_
  refine V_lload (pc' := 80) hX dX8_isLiker_78 rfl rfl ?_
  refine V_callV (nA := 3) (pc' := 83) (k' := 0) (n' := 0) hX dX8_isLiker_80 (c_Md_above (amL W (L t)) (amL W (L u)) (shL W (L t) (L u)) (by omega) hmo hM) hM.1 rfl wM_X8_142 wI_X8_above wL_X8_above wN_X8 wC_X8_above rfl hy_X8_above rfl (Nat.le_of_ble_eq_true rfl) (by decide) (by omega) rfl rfl (by omega) rfl (by omega) rfl ?_
  rintro _ z h ⟨rfl, rfl, rfl⟩
  refine V.stk (st' := [_, _]) rfl ?_
  refine V_aload_n (pc' := 84) hX dX8_isLiker_83 rfl rfl ?_
  refine V_lload (pc' := 86) hX dX8_isLiker_84 rfl rfl ?_
  refine V_lload (pc' := 88) hX dX8_isLiker_86 rfl rfl ?_
  refine V_lload (pc' := 90) hX dX8_isLiker_88 rfl rfl ?_
  refine V_callV (nA := 3) (pc' := 93) (k' := 0) (n' := 0) hX dX8_isLiker_90 (c_Md_below (amL W (L r)) (amL W (L s)) (shL W (L r) (L s)) (by omega) a1 a2 hmo hM) hM.1 rfl wM_X8_146 wI_X8_below wL_X8_below wN_X8 wC_X8_below rfl hy_X8_below rfl (Nat.le_of_ble_eq_true rfl) (by decide) (by omega) rfl rfl (by omega) rfl (by omega) rfl ?_
  rintro _ z h ⟨rfl, rfl, rfl⟩
  refine V.stk (st' := [_, _, _]) rfl ?_
  refine V_lmulN (pc' := 94) hX dX8_isLiker_93 rfl ?_
  refine V_lcmp_leN (pt := 102) (pc' := 98) hX dX8_isLiker_94 rfl dX8_isLiker_95 (by omega) (by omega) rfl rfl (fun c94 => ?_) (fun c94 => ?_)
  · refine V_iconst (pc' := 103) (v := nI 0) hX dX8_isLiker_102 (by decide) rfl ?_
    refine V_zret hX hR dX8_isLiker_103 (by rfl) ?_
    have e : lkE kd W L (r, s) (t, u) = false := decide_eq_false (Nat.not_lt.mpr c94)
    rw [e]; exact ⟨rfl, rfl, rfl⟩
  · refine V_iconst (pc' := 99) (v := nI 1) hX dX8_isLiker_98 (by decide) rfl ?_
    refine V_goto (pc' := 103) hX dX8_isLiker_99 rfl ?_
    refine V_zret hX hR dX8_isLiker_103 (by rfl) ?_
    have e : lkE kd W L (r, s) (t, u) = true := decide_eq_true (Nat.lt_of_not_le c94)
    rw [e]; exact ⟨rfl, rfl, rfl⟩
set_option maxRecDepth 100000 in
set_option maxHeartbeats 4000000 in
theorem c_Md_top {G : Gd} {z : Nat} {h : AH} {y : Nat} {th : Int32} {mk : Nat} {ts : Nat} {fs : Nat} {kd : Nat} {p : Nat} {q : Nat} {len : Nat} {ks : Nat} {fm : Nat} {cm : Nat} {be : Nat} {dz : Nat → Bool} {mn : Nat → Nat} {st : Nat → Nat} {tn : Nat → Nat} {tv : Nat → Nat} {fn : Nat → Nat} {fv : Nat → Nat} {on : Nat → Nat} {tw : Nat → Nat} {bf : Nat → Nat} {g1 : Nat → Nat} {g2 : Nat → Nat} {g3 : Nat → Nat} {sv : Nat → Nat} {fa : Nat → Int32} {fy : Nat → Nat} {bs : Nat → Nat} {cf : Nat → Nat} {av : Nat → Bool} {M L : Nat → List Nat} {W F : Nat → Nat} (nv : Int32) (hI : mdI mk ts fs kd p q av M L W F dz mn st tn tv fn fv) (hM : mdC G h y th mk ts fs kd p q len ks fm cm be dz mn st tn tv fn fv on tw bf g1 g2 g3 sv fa fy bs cf)  : Ct G yX8_top cX8_top 5 (some .int) 3 0 0 [.ref y, .int nv] z h (fun r' z' h' => z' = z ∧ fr y (y + 19) h h' ∧ ((¬ (1 ≤ nv.toInt ∧ nv.toInt ≤ 100) ∧ r' = some (.int (-1)) ∧ mdC G h' y (nI 0) mk ts fs kd p q len ks fm cm be dz mn st tn tv fn fv on tw bf g1 g2 g3 sv fa fy bs cf) ∨ ∃ n k1 k2 k3 ks', nv = nI n ∧ 1 ≤ n ∧ n ≤ 100 ∧ ktOk (shE W L) (topA kd W L n (prL av mk mk)) k1 k2 k3 ks' ∧ r' = some (.int (nI ks')) ∧ mdC G h' y (nI 0) mk ts fs kd p q len (ks') fm cm be dz mn st tn tv fn fv on tw bf (k1) (k2) (k3) sv fa fy bs cf)) := by
  refine Ct.of (lv := [_, _, _, _, _]) (by decide) (Nat.le_of_ble_eq_true rfl) rfl ?_
  rintro X rfl hX hR hnm
  obtain ⟨⟨hmk, hav, hdz⟩, hS, hT, hK, hL, hmo, hemp⟩ := id hI
  refine V_aload_n (pc' := 1) hX dX8_top_0 rfl rfl ?_
  refine V_iconst (pc' := 2) (v := nI 0) hX dX8_top_1 (by decide) rfl ?_
  refine V_put (pc' := 5) (fs' := [_, _, _, _, _, _, _, _, _, _, _, _, _, _, _, _, _, _, _, _, _, _, _, _, _, _, _, _, _, _]) (ty0 := tyX8) hX dX8_top_2 hM.1 rfl inX8 tyX8_ok nmX8 0 (by decide) wF_X8_75 rfl (tyX8_ok 0 (by decide)) rfl rfl (Nat.le_of_ble_eq_true rfl) rfl rfl ?_
  refine V.gen (fun h0 eh0 => ?_)
  have f0 := fr.of_up eh0
  have hM := hM.u0 (up_at eh0) f0
  have f0 := f0.mono (lo' := y) (hi' := y + 19) (by omega) (by omega)
  refine V_iload_n (pc' := 6) hX dX8_top_5 rfl rfl ?_
  refine V_iconst (pc' := 7) (v := nI 1) hX dX8_top_6 (by decide) rfl ?_
  refine V_bipush (pc' := 9) (v := nI 100) hX dX8_top_7 (by decide) rfl ?_
  refine V_callS (nA := 3) (pc' := 12) (k' := 0) (n' := 0) hX dX8_top_9 (c_Md_in nv (nI 1) (nI 100)) wM_X8_81 wS_X8_in wN_X8 wC_X8_in rfl hy_X8_in rfl (Nat.le_of_ble_eq_true rfl) (by decide) (by omega) rfl rfl (by omega) rfl (by omega) rfl ?_
  rintro _ z h0 ⟨rfl, rfl, rfl⟩
  rw [show (nI 1).toInt = 1 by decide, show (nI 100).toInt = 100 by decide]
  refine V.stk (st' := [_]) rfl ?_
  refine V_if_neB (pt := 17) (pc' := 15) hX dX8_top_12 rfl rfl (fun c12 => ?_) (fun c12 => ?_)
  · have hc := of_decide_eq_true c12
    obtain ⟨n, hn31, rfl⟩ := nI_of (x := nv) (by rw [i32_lt]; show ¬ _ < (0 : Int); omega)
    rw [nI_toInt hn31] at hc
    refine V_aload_n (pc' := 18) hX dX8_top_17 rfl rfl ?_
    refine V_iconst (pc' := 19) (v := nI 0) hX dX8_top_18 (by decide) rfl ?_
    refine V_put (pc' := 22) (fs' := [_, _, _, _, _, _, _, _, _, _, _, _, _, _, _, _, _, _, _, _, _, _, _, _, _, _, _, _, _, _]) (ty0 := tyX8) hX dX8_top_19 hM.1 rfl inX8 tyX8_ok nmX8 18 (by decide) wF_X8_179 rfl (tyX8_ok 18 (by decide)) rfl rfl (Nat.le_of_ble_eq_true rfl) rfl rfl ?_
    refine V.gen (fun h1 eh1 => ?_)
    have fh1 := fr.of_up eh1
    have hM := hM.u0 (up_at eh1) fh1
    have f0 := f0.tr (fh1.mono (lo' := y) (hi' := y + 19) (by omega) (by omega))
    refine V_iconst (pc' := 23) (v := nI 0) hX dX8_top_22 (by decide) rfl ?_
    refine V_istore_n (pc' := 24) (lv' := [_, _, _, _, _]) hX dX8_top_23 (Nat.le_of_ble_eq_true rfl) rfl rfl ?_
    have lp : ∀ (μ i : Nat) (h3 : AH) (k1 k2 k3 : Nat → Nat) (ks3 : Nat), i ≤ mk → ktOk (shE W L) (topA kd W L n (prL av mk i)) k1 k2 k3 ks3 → topI kd W L n (topA kd W L n (prL av mk i)) → (∀ e, e ∈ (topA kd W L n (prL av mk i)) → av e.1 = true ∧ av e.2 = true) → fr y (y + 19) h h3 → mdC X.G h3 y (nI 0) mk ts fs kd p q len (ks3) fm cm be dz mn st tn tv fn fv on tw bf (k1) (k2) (k3) sv fa fy bs cf → mk - i < μ → V X 0 0 z h3 24 [some (.ref y), some (.int (nI n)), some (.int (nI i)), none, none] [] := by
      intro μ
      induction μ with
      | zero => intros; omega
      | succ μ ih =>
        intro i h3 k1 k2 k3 ks3 b1 b2 b3 b4 f0 hM b5
        refine V_iload_n (pc' := 25) hX dX8_top_24 rfl rfl ?_
        refine V_aload_n (pc' := 26) hX dX8_top_25 rfl rfl ?_
        refine V_get (pc' := 29) hX dX8_top_26 hM.1 rfl inX8 1 (by decide) wF_X8_78 rfl rfl ?_
        refine V_icmp_geN (pt := 216) (pc' := 32) hX dX8_top_29 (by omega) (by omega) rfl rfl (fun c29 => ?_) (fun c29 => ?_)
        · refine V_aload_n (pc' := 217) hX dX8_top_216 rfl rfl ?_
          refine V_get (pc' := 220) hX dX8_top_217 hM.1 rfl inX8 18 (by decide) wF_X8_179 rfl rfl ?_
          refine V_iret hX hR dX8_top_220 ?_
          have ei : i = mk := by omega
          subst ei
          exact ⟨rfl, f0, Or.inr ⟨n, _, _, _, _, rfl, by omega, by omega, b2, rfl, hM⟩⟩
        · have ihO := ih
          refine V_iload_n (pc' := 33) hX dX8_top_32 rfl rfl ?_
          refine V_iconst (pc' := 34) (v := nI 1) hX dX8_top_33 (by decide) rfl ?_
          refine V_iaddN (pc' := 35) hX dX8_top_34 rfl ?_
          refine V_istore_n (pc' := 36) (lv' := [_, _, _, _, _]) hX dX8_top_35 (Nat.le_of_ble_eq_true rfl) rfl rfl ?_
          have lq : ∀ (ν s : Nat) (h4 : AH) (k4 k5 k6 : Nat → Nat) (ks4 : Nat), i < s → s ≤ mk → ktOk (shE W L) (topA kd W L n (prL av mk i ++ prS av i s)) k4 k5 k6 ks4 → topI kd W L n (topA kd W L n (prL av mk i ++ prS av i s)) → (∀ e, e ∈ (topA kd W L n (prL av mk i ++ prS av i s)) → av e.1 = true ∧ av e.2 = true) → fr y (y + 19) h h4 → mdC X.G h4 y (nI 0) mk ts fs kd p q len (ks4) fm cm be dz mn st tn tv fn fv on tw bf (k4) (k5) (k6) sv fa fy bs cf → mk - s < ν → V X 0 0 z h4 36 [some (.ref y), some (.int (nI n)), some (.int (nI i)), some (.int (nI s)), none] [] := by
            intro μ
            induction μ with
            | zero => intros; omega
            | succ μ ih =>
              intro s h4 k4 k5 k6 ks4 e0 e1 e2 e3 e4 e5 hM e6
              have hkn := e3.1
              obtain ⟨hkl, hkt2⟩ := id e2
              refine V_iload_n (pc' := 37) hX dX8_top_36 rfl rfl ?_
              refine V_aload_n (pc' := 38) hX dX8_top_37 rfl rfl ?_
              refine V_get (pc' := 41) hX dX8_top_38 hM.1 rfl inX8 1 (by decide) wF_X8_78 rfl rfl ?_
              refine V_icmp_geN (pt := 210) (pc' := 44) hX dX8_top_41 (by omega) (by omega) rfl rfl (fun c41 => ?_) (fun c41 => ?_)
              · refine V_iincN (pc' := 213) (j := 1) (lv' := [_, _, _, _, _]) hX dX8_top_210 rfl rfl rfl rfl ?_
                refine V_goto (pc' := 24) hX dX8_top_213 rfl ?_
                refine V.loc2 (lv' := [some _, some _, some _, none, none]) ⟨rfl, rfl, rfl, trivial⟩ ?_
                exact ihO (i + 1) _ _ _ _ _ (by omega) (by rw [prL_s, show mk = s by omega]; rw [show mk = s by omega] at e2; exact e2) (by rw [prL_s, show mk = s by omega]; rw [show mk = s by omega] at e3; exact e3) (by rw [prL_s, show mk = s by omega]; rw [show mk = s by omega] at e4; exact e4) e5 hM (by omega)
              · refine V_aload_n (pc' := 45) hX dX8_top_44 rfl rfl ?_
                refine V_get (pc' := 48) hX dX8_top_45 hM.1 rfl inX8 2 (by decide) wF_X8_9 rfl rfl ?_
                refine V_iload_n (pc' := 49) hX dX8_top_48 rfl rfl ?_
                refine V_zaldN (pc' := 50) (v := bI (dz i)) hX dX8_top_49 hM.2.1 (by omega) (by omega) rfl rfl ?_
                refine V_if_neB (pt := 204) (pc' := 53) hX dX8_top_50 rfl rfl (fun c50 => ?_) (fun c50 => ?_)
                · have hai : av i = false := by
                    have := hdz i (by omega)
                    rw [c50, decide_eq_true (show i < mk by omega)] at this
                    cases hx : av i with
                    | false => rfl
                    | true => rw [hx] at this; cases this
                  have ep : prS av i (s + 1) = prS av i s := by rw [prS_s, if_neg (fun w => by have := w.2.1; rw [hai] at this; cases this), List.append_nil]
                  try rw [eKK] at hkt9 ht9 hal9
                  refine V_iincN (pc' := 207) (j := 1) (lv' := [_, _, _, _, _]) hX dX8_top_204 rfl rfl rfl rfl ?_
                  refine V_goto (pc' := 36) hX dX8_top_207 rfl ?_
                  refine V.loc2 (lv' := [some _, some _, some _, some _, none]) ⟨rfl, rfl, rfl, rfl, trivial⟩ ?_
                  first
                    | (exact ihq (s + 1) _ _ _ _ _ (by omega) (by omega) (by rw [ep, ← List.append_assoc, topA_snoc]; exact hkt9) (by rw [ep, ← List.append_assoc, topA_snoc]; exact ht9.2) (by rw [ep, ← List.append_assoc, topA_snoc, ht9.1]; exact hal9) d6 hM (by omega))
                    | (exact ih (s + 1) _ _ _ _ _ (by omega) (by omega) (by rw [ep, ← List.append_assoc, topA_snoc, topI.skip hsh0]; exact e2) (by rw [ep, ← List.append_assoc, topA_snoc, topI.skip hsh0]; exact e3) (by rw [ep, ← List.append_assoc, topA_snoc, topI.skip hsh0]; exact e4) e5 hM (by omega))
                    | exact ih (s + 1) _ _ _ _ _ (by omega) (by omega) (by rw [ep]; exact e2) (by rw [ep]; exact e3) (by rw [ep]; exact e4) e5 hM (by omega)
                · have hai : av i = true := by
                    have := hdz i (by omega)
                    rw [c50, decide_eq_true (show i < mk by omega)] at this
                    cases hx : av i with
                    | true => rfl
                    | false => rw [hx] at this; cases this
                  refine V_aload_n (pc' := 54) hX dX8_top_53 rfl rfl ?_
                  refine V_get (pc' := 57) hX dX8_top_54 hM.1 rfl inX8 2 (by decide) wF_X8_9 rfl rfl ?_
                  refine V_iload_n (pc' := 58) hX dX8_top_57 rfl rfl ?_
                  refine V_zaldN (pc' := 59) (v := bI (dz s)) hX dX8_top_58 hM.2.1 (by omega) (by omega) rfl rfl ?_
                  refine V_if_neB (pt := 204) (pc' := 62) hX dX8_top_59 rfl rfl (fun c59 => ?_) (fun c59 => ?_)
                  · have has : av s = false := by
                      have := hdz s (by omega)
                      rw [c59, decide_eq_true (show s < mk by omega)] at this
                      cases hx : av s with
                      | false => rfl
                      | true => rw [hx] at this; cases this
                    have ep : prS av i (s + 1) = prS av i s := by rw [prS_s, if_neg (fun w => by have := w.2.2; rw [has] at this; cases this), List.append_nil]
                    try rw [eKK] at hkt9 ht9 hal9
                    refine V_iincN (pc' := 207) (j := 1) (lv' := [_, _, _, _, _]) hX dX8_top_204 rfl rfl rfl rfl ?_
                    refine V_goto (pc' := 36) hX dX8_top_207 rfl ?_
                    refine V.loc2 (lv' := [some _, some _, some _, some _, none]) ⟨rfl, rfl, rfl, rfl, trivial⟩ ?_
                    first
                      | (exact ihq (s + 1) _ _ _ _ _ (by omega) (by omega) (by rw [ep, ← List.append_assoc, topA_snoc]; exact hkt9) (by rw [ep, ← List.append_assoc, topA_snoc]; exact ht9.2) (by rw [ep, ← List.append_assoc, topA_snoc, ht9.1]; exact hal9) d6 hM (by omega))
                      | (exact ih (s + 1) _ _ _ _ _ (by omega) (by omega) (by rw [ep, ← List.append_assoc, topA_snoc, topI.skip hsh0]; exact e2) (by rw [ep, ← List.append_assoc, topA_snoc, topI.skip hsh0]; exact e3) (by rw [ep, ← List.append_assoc, topA_snoc, topI.skip hsh0]; exact e4) e5 hM (by omega))
                      | exact ih (s + 1) _ _ _ _ _ (by omega) (by omega) (by rw [ep]; exact e2) (by rw [ep]; exact e3) (by rw [ep]; exact e4) e5 hM (by omega)
                  · have has : av s = true := by
                      have := hdz s (by omega)
                      rw [c59, decide_eq_true (show s < mk by omega)] at this
                      cases hx : av s with
                      | true => rfl
                      | false => rw [hx] at this; cases this
                    have ep : prS av i (s + 1) = prS av i s ++ [(i, s)] := by rw [prS_s, if_pos ⟨e0, hai, has⟩]
                    have ar := hI.am hai
                    have as := hI.am has
                    have cs : shL W (L i) (L s) ≤ amL W (L i) := shL_le W (L i) (L s)
                    refine V_aload_n (pc' := 63) hX dX8_top_62 rfl rfl ?_
                    refine V_iload_n (pc' := 64) hX dX8_top_63 rfl rfl ?_
                    refine V_iload_n (pc' := 65) hX dX8_top_64 rfl rfl ?_
                    refine V_callV (nA := 2) (pc' := 68) (k' := 0) (n' := 0) hX dX8_top_65 (c_Md_shared i s hai has hI hM) hM.1 rfl wM_X8_139 wI_X8_shared wL_X8_shared wN_X8 wC_X8_shared rfl hy_X8_shared rfl (Nat.le_of_ble_eq_true rfl) (by decide) (by omega) rfl rfl (by omega) rfl (by omega) rfl ?_
                    rintro _ z h4 ⟨rfl, rfl, rfl⟩
                    refine V.stk (st' := [_]) rfl ?_
                    refine V_if_neN (pt := 74) (pc' := 71) hX dX8_top_68 (by omega) rfl rfl (fun c68 => ?_) (fun c68 => ?_)
                    · have hsh : 0 < shE W L (i, s) := by show 0 < shL W (L i) (L s); omega
                      have hgd : gdE kd W L (i, s) := ⟨belowN_pos2 cs (shL_pos (w := W) (L := L i) (M := L s)), aboveN_bd (by show shL W (L i) (L s) ≤ 3000; omega), belowN_bd ar as⟩
                      have ihq := ih
                      obtain ⟨KK, eKK⟩ : ∃ KK, KK = (topA kd W L n (prL av mk i ++ prS av i s)) := ⟨_, rfl⟩
                      rw [← eKK] at e2 e3 e4 hkt2 hkn hkl
                      have j1 :  V X 0 0 z h4 90 [some (.ref y), some (.int (nI n)), some (.int (nI i)), some (.int (nI s)), none] [.int (nI KK.length)] := by
                        skip
                        refine V_istore (pc' := 92) (lv' := [_, _, _, _, _]) hX dX8_top_90 (Nat.le_of_ble_eq_true rfl) rfl rfl ?_
                        have lk : ∀ (κ k : Nat) (h5 : AH) (m1 m2 m3 : Nat → Nat), k ≤ KK.length → (∀ j, j < k → m1 j = (KK.getD j (0, 0)).1 ∧ m2 j = (KK.getD j (0, 0)).2 ∧ m3 j = shE W L (KK.getD j (0, 0))) → (∀ j, k < j → j ≤ KK.length → m1 j = (KK.getD (j - 1) (0, 0)).1 ∧ m2 j = (KK.getD (j - 1) (0, 0)).2 ∧ m3 j = shE W L (KK.getD (j - 1) (0, 0))) → (∀ j, k ≤ j → j < KK.length → lkE kd W L (i, s) (KK.getD j (0, 0)) = true) → fr y (y + 19) h h5 → mdC X.G h5 y (nI 0) mk ts fs kd p q len (ks4) fm cm be dz mn st tn tv fn fv on tw bf (m1) (m2) (m3) sv fa fy bs cf → k < κ → V X 0 0 z h5 92 [some (.ref y), some (.int (nI n)), some (.int (nI i)), some (.int (nI s)), some (.int (nI k))] [] := by
                          intro μ
                          induction μ with
                          | zero => intros; omega
                          | succ μ ih =>
                            intro k h5 m1 m2 m3 d1 d2 d3 d4 d6 hM d7
                            refine V_iload (pc' := 94) hX dX8_top_92 rfl rfl ?_
                            refine V_if_leN (pt := 178) (pc' := 97) hX dX8_top_94 (by omega) rfl rfl (fun c94 => ?_) (fun c94 => ?_)
                            · have hle : ∀ j, j < k → leE kd W L (i, s) (KK.getD j (0, 0)) := by
                                intro j hj
                                have h1 : leE kd W L (i, s) (KK.getD (k - 1) (0, 0)) := by
                                  first
                                    | (exfalso; omega)
                                    | exact lkE_no.mp c121
                                by_cases q : j = k - 1
                                · rw [q]; exact h1
                                · exact leE_tr (e3.2.2 _ (getDG_mem (by omega))) h1 (e3.2.1 j (k - 1) (by omega) (by omega))
                              have ht9 := e3.ins hgd hsh d1 hle d4
                              have hal9 : ∀ e, e ∈ (KK.take k ++ (i, s) :: KK.drop k).take n → av e.1 = true ∧ av e.2 = true := fun e he => by
                                rcases List.mem_append.mp (List.mem_of_mem_take he) with q | q
                                · exact e4 e (List.mem_of_mem_take q)
                                · rcases List.mem_cons.mp q with q | q
                                  · rw [q]; exact ⟨hai, has⟩
                                  · exact e4 e (List.mem_of_mem_drop q)
                              have hrow : ∀ j, j < KK.length + 1 → va_up m1 k i j = ((KK.take k ++ (i, s) :: KK.drop k).getD j (0, 0)).1 ∧ va_up m2 k s j = ((KK.take k ++ (i, s) :: KK.drop k).getD j (0, 0)).2 ∧ va_up m3 k (shL W (L i) (L s)) j = shE W L ((KK.take k ++ (i, s) :: KK.drop k).getD j (0, 0)) := fun j hj => by
                                rw [insG_getD d1 hj]
                                rcases Nat.lt_trichotomy j k with q | q | q
                                · rw [if_pos q, vu_ne _ _ (by omega), vu_ne _ _ (by omega), vu_ne _ _ (by omega)]; exact d2 j q
                                · rw [if_neg (by omega), if_pos q, q, vu_at, vu_at, vu_at]; exact ⟨rfl, rfl, rfl⟩
                                · rw [if_neg (by omega), if_neg (by omega), vu_ne _ _ (by omega), vu_ne _ _ (by omega), vu_ne _ _ (by omega)]; exact d3 j q (by omega)
                              refine V_aload_n (pc' := 179) hX dX8_top_178 rfl rfl ?_
                              refine V_iload (pc' := 181) hX dX8_top_179 rfl rfl ?_
                              refine V_iload_n (pc' := 182) hX dX8_top_181 rfl rfl ?_
                              refine V_iload_n (pc' := 183) hX dX8_top_182 rfl rfl ?_
                              refine V_callV (nA := 3) (pc' := 186) (k' := 0) (n' := 0) hX dX8_top_183 (c_Md_keep k i s (by omega) hai has hI hM) hM.1 rfl wM_X8_182 wI_X8_keep wL_X8_keep wN_X8 wC_X8_keep rfl hy_X8_keep rfl (Nat.le_of_ble_eq_true rfl) (by decide) (by omega) rfl rfl (by omega) rfl (by omega) rfl ?_
                              rintro _ z h9 ⟨rfl, rfl, f9, hM⟩
                              have d6 := d6.tr f9
                              refine V.stk (st' := []) rfl ?_
                              refine V_aload_n (pc' := 187) hX dX8_top_186 rfl rfl ?_
                              refine V_get (pc' := 190) hX dX8_top_187 hM.1 rfl inX8 18 (by decide) wF_X8_179 rfl rfl ?_
                              refine V_iload_n (pc' := 191) hX dX8_top_190 rfl rfl ?_
                              refine V_icmp_geN (pt := 204) (pc' := 194) hX dX8_top_191 (by omega) (by omega) rfl rfl (fun c191 => ?_) (fun c191 => ?_)
                              · have hkt9 : ktOk (shE W L) (topS kd W L n KK (i, s)) (va_up m1 k i) (va_up m2 k s) (va_up m3 k (shL W (L i) (L s))) ks4 := by
                                  rw [ht9.1]
                                  refine ⟨by rw [List.length_take, insG_len d1]; omega, fun j hj => ?_⟩
                                  rw [take_getD (by omega)]
                                  exact hrow j (by omega)
                                try rw [eKK] at hkt9 ht9 hal9
                                refine V_iincN (pc' := 207) (j := 1) (lv' := [_, _, _, _, _]) hX dX8_top_204 rfl rfl rfl rfl ?_
                                refine V_goto (pc' := 36) hX dX8_top_207 rfl ?_
                                refine V.loc2 (lv' := [some _, some _, some _, some _, none]) ⟨rfl, rfl, rfl, rfl, trivial⟩ ?_
                                first
                                  | (exact ihq (s + 1) _ _ _ _ _ (by omega) (by omega) (by rw [ep, ← List.append_assoc, topA_snoc]; exact hkt9) (by rw [ep, ← List.append_assoc, topA_snoc]; exact ht9.2) (by rw [ep, ← List.append_assoc, topA_snoc, ht9.1]; exact hal9) d6 hM (by omega))
                                  | (exact ih (s + 1) _ _ _ _ _ (by omega) (by omega) (by rw [ep, ← List.append_assoc, topA_snoc, topI.skip hsh0]; exact e2) (by rw [ep, ← List.append_assoc, topA_snoc, topI.skip hsh0]; exact e3) (by rw [ep, ← List.append_assoc, topA_snoc, topI.skip hsh0]; exact e4) e5 hM (by omega))
                                  | exact ih (s + 1) _ _ _ _ _ (by omega) (by omega) (by rw [ep]; exact e2) (by rw [ep]; exact e3) (by rw [ep]; exact e4) e5 hM (by omega)
                              · refine V_aload_n (pc' := 195) hX dX8_top_194 rfl rfl ?_
                                refine V_dup (pc' := 196) hX dX8_top_195 rfl rfl ?_
                                refine V_get (pc' := 199) hX dX8_top_196 hM.1 rfl inX8 18 (by decide) wF_X8_179 rfl rfl ?_
                                refine V_iconst (pc' := 200) (v := nI 1) hX dX8_top_199 (by decide) rfl ?_
                                refine V_iaddN (pc' := 201) hX dX8_top_200 rfl ?_
                                refine V_put (pc' := 204) (fs' := [_, _, _, _, _, _, _, _, _, _, _, _, _, _, _, _, _, _, _, _, _, _, _, _, _, _, _, _, _, _]) (ty0 := tyX8) hX dX8_top_201 hM.1 rfl inX8 tyX8_ok nmX8 18 (by decide) wF_X8_179 rfl (tyX8_ok 18 (by decide)) rfl rfl (Nat.le_of_ble_eq_true rfl) rfl rfl ?_
                                refine V.gen (fun hA ehA => ?_)
                                have f9 := fr.of_up ehA
                                have hM := hM.u0 (up_at ehA) f9
                                have d6 := d6.tr (f9.mono (lo' := y) (hi' := y + 19) (by omega) (by omega))
                                have hkt9 : ktOk (shE W L) (topS kd W L n KK (i, s)) (va_up m1 k i) (va_up m2 k s) (va_up m3 k (shL W (L i) (L s))) (ks4 + 1) := by
                                  rw [ht9.1]
                                  refine ⟨by rw [List.length_take, insG_len d1]; omega, fun j hj => ?_⟩
                                  rw [take_getD (by omega)]
                                  exact hrow j (by omega)
                                try rw [eKK] at hkt9 ht9 hal9
                                refine V_iincN (pc' := 207) (j := 1) (lv' := [_, _, _, _, _]) hX dX8_top_204 rfl rfl rfl rfl ?_
                                refine V_goto (pc' := 36) hX dX8_top_207 rfl ?_
                                refine V.loc2 (lv' := [some _, some _, some _, some _, none]) ⟨rfl, rfl, rfl, rfl, trivial⟩ ?_
                                first
                                  | (exact ihq (s + 1) _ _ _ _ _ (by omega) (by omega) (by rw [ep, ← List.append_assoc, topA_snoc]; exact hkt9) (by rw [ep, ← List.append_assoc, topA_snoc]; exact ht9.2) (by rw [ep, ← List.append_assoc, topA_snoc, ht9.1]; exact hal9) d6 hM (by omega))
                                  | (exact ih (s + 1) _ _ _ _ _ (by omega) (by omega) (by rw [ep, ← List.append_assoc, topA_snoc, topI.skip hsh0]; exact e2) (by rw [ep, ← List.append_assoc, topA_snoc, topI.skip hsh0]; exact e3) (by rw [ep, ← List.append_assoc, topA_snoc, topI.skip hsh0]; exact e4) e5 hM (by omega))
                                  | exact ih (s + 1) _ _ _ _ _ (by omega) (by omega) (by rw [ep]; exact e2) (by rw [ep]; exact e3) (by rw [ep]; exact e4) e5 hM (by omega)
                            · have hmem := getDG_mem (K := KK) (d := (0, 0)) (j := k - 1) (by omega)
                              refine V_aload_n (pc' := 98) hX dX8_top_97 rfl rfl ?_
                              refine V_iload_n (pc' := 99) hX dX8_top_98 rfl rfl ?_
                              refine V_iload_n (pc' := 100) hX dX8_top_99 rfl rfl ?_
                              refine V_aload_n (pc' := 101) hX dX8_top_100 rfl rfl ?_
                              refine V_get (pc' := 104) hX dX8_top_101 hM.1 rfl inX8 19 (by decide) wF_X8_51 rfl rfl ?_
                              refine V_iload (pc' := 106) hX dX8_top_104 rfl rfl ?_
                              refine V_iconst (pc' := 107) (v := nI 1) hX dX8_top_106 (by decide) rfl ?_
                              refine V_isubN (pc' := 108) hX dX8_top_107 (by omega) rfl ?_
                              refine V_ialdN (pc' := 109) (v := nI (KK.getD (k - 1) (0, 0)).1) hX dX8_top_108 hM.2.2.2.2.2.2.2.2.2.2.2.1 (by omega) (by omega) (by rw [(d2 (k - 1) (by omega)).1]) rfl ?_
                              refine V_aload_n (pc' := 110) hX dX8_top_109 rfl rfl ?_
                              refine V_get (pc' := 113) hX dX8_top_110 hM.1 rfl inX8 20 (by decide) wF_X8_54 rfl rfl ?_
                              refine V_iload (pc' := 115) hX dX8_top_113 rfl rfl ?_
                              refine V_iconst (pc' := 116) (v := nI 1) hX dX8_top_115 (by decide) rfl ?_
                              refine V_isubN (pc' := 117) hX dX8_top_116 (by omega) rfl ?_
                              refine V_ialdN (pc' := 118) (v := nI (KK.getD (k - 1) (0, 0)).2) hX dX8_top_117 hM.2.2.2.2.2.2.2.2.2.2.2.2.1 (by omega) (by omega) (by rw [(d2 (k - 1) (by omega)).2.1]) rfl ?_
                              refine V_callV (nA := 4) (pc' := 121) (k' := 0) (n' := 0) hX dX8_top_118 (c_Md_isLiker i s (KK.getD (k - 1) (0, 0)).1 (KK.getD (k - 1) (0, 0)).2 hai has (e4 _ hmem).1 (e4 _ hmem).2 hI hM) hM.1 rfl wM_X8_190 wI_X8_isLiker wL_X8_isLiker wN_X8 wC_X8_isLiker rfl hy_X8_isLiker rfl (Nat.le_of_ble_eq_true rfl) (by decide) (by omega) rfl rfl (by omega) rfl (by omega) rfl ?_
                              rintro _ z h5 ⟨rfl, rfl, rfl⟩
                              refine V.stk (st' := [_]) rfl ?_
                              refine V_if_eqB (pt := 178) (pc' := 124) hX dX8_top_121 rfl rfl (fun c121 => ?_) (fun c121 => ?_)
                              · have hle : ∀ j, j < k → leE kd W L (i, s) (KK.getD j (0, 0)) := by
                                  intro j hj
                                  have h1 : leE kd W L (i, s) (KK.getD (k - 1) (0, 0)) := by
                                    first
                                      | (exfalso; omega)
                                      | exact lkE_no.mp c121
                                  by_cases q : j = k - 1
                                  · rw [q]; exact h1
                                  · exact leE_tr (e3.2.2 _ (getDG_mem (by omega))) h1 (e3.2.1 j (k - 1) (by omega) (by omega))
                                have ht9 := e3.ins hgd hsh d1 hle d4
                                have hal9 : ∀ e, e ∈ (KK.take k ++ (i, s) :: KK.drop k).take n → av e.1 = true ∧ av e.2 = true := fun e he => by
                                  rcases List.mem_append.mp (List.mem_of_mem_take he) with q | q
                                  · exact e4 e (List.mem_of_mem_take q)
                                  · rcases List.mem_cons.mp q with q | q
                                    · rw [q]; exact ⟨hai, has⟩
                                    · exact e4 e (List.mem_of_mem_drop q)
                                have hrow : ∀ j, j < KK.length + 1 → va_up m1 k i j = ((KK.take k ++ (i, s) :: KK.drop k).getD j (0, 0)).1 ∧ va_up m2 k s j = ((KK.take k ++ (i, s) :: KK.drop k).getD j (0, 0)).2 ∧ va_up m3 k (shL W (L i) (L s)) j = shE W L ((KK.take k ++ (i, s) :: KK.drop k).getD j (0, 0)) := fun j hj => by
                                  rw [insG_getD d1 hj]
                                  rcases Nat.lt_trichotomy j k with q | q | q
                                  · rw [if_pos q, vu_ne _ _ (by omega), vu_ne _ _ (by omega), vu_ne _ _ (by omega)]; exact d2 j q
                                  · rw [if_neg (by omega), if_pos q, q, vu_at, vu_at, vu_at]; exact ⟨rfl, rfl, rfl⟩
                                  · rw [if_neg (by omega), if_neg (by omega), vu_ne _ _ (by omega), vu_ne _ _ (by omega), vu_ne _ _ (by omega)]; exact d3 j q (by omega)
                                refine V_aload_n (pc' := 179) hX dX8_top_178 rfl rfl ?_
                                refine V_iload (pc' := 181) hX dX8_top_179 rfl rfl ?_
                                refine V_iload_n (pc' := 182) hX dX8_top_181 rfl rfl ?_
                                refine V_iload_n (pc' := 183) hX dX8_top_182 rfl rfl ?_
                                refine V_callV (nA := 3) (pc' := 186) (k' := 0) (n' := 0) hX dX8_top_183 (c_Md_keep k i s (by omega) hai has hI hM) hM.1 rfl wM_X8_182 wI_X8_keep wL_X8_keep wN_X8 wC_X8_keep rfl hy_X8_keep rfl (Nat.le_of_ble_eq_true rfl) (by decide) (by omega) rfl rfl (by omega) rfl (by omega) rfl ?_
                                rintro _ z h9 ⟨rfl, rfl, f9, hM⟩
                                have d6 := d6.tr f9
                                refine V.stk (st' := []) rfl ?_
                                refine V_aload_n (pc' := 187) hX dX8_top_186 rfl rfl ?_
                                refine V_get (pc' := 190) hX dX8_top_187 hM.1 rfl inX8 18 (by decide) wF_X8_179 rfl rfl ?_
                                refine V_iload_n (pc' := 191) hX dX8_top_190 rfl rfl ?_
                                refine V_icmp_geN (pt := 204) (pc' := 194) hX dX8_top_191 (by omega) (by omega) rfl rfl (fun c191 => ?_) (fun c191 => ?_)
                                · have hkt9 : ktOk (shE W L) (topS kd W L n KK (i, s)) (va_up m1 k i) (va_up m2 k s) (va_up m3 k (shL W (L i) (L s))) ks4 := by
                                    rw [ht9.1]
                                    refine ⟨by rw [List.length_take, insG_len d1]; omega, fun j hj => ?_⟩
                                    rw [take_getD (by omega)]
                                    exact hrow j (by omega)
                                  try rw [eKK] at hkt9 ht9 hal9
                                  refine V_iincN (pc' := 207) (j := 1) (lv' := [_, _, _, _, _]) hX dX8_top_204 rfl rfl rfl rfl ?_
                                  refine V_goto (pc' := 36) hX dX8_top_207 rfl ?_
                                  refine V.loc2 (lv' := [some _, some _, some _, some _, none]) ⟨rfl, rfl, rfl, rfl, trivial⟩ ?_
                                  first
                                    | (exact ihq (s + 1) _ _ _ _ _ (by omega) (by omega) (by rw [ep, ← List.append_assoc, topA_snoc]; exact hkt9) (by rw [ep, ← List.append_assoc, topA_snoc]; exact ht9.2) (by rw [ep, ← List.append_assoc, topA_snoc, ht9.1]; exact hal9) d6 hM (by omega))
                                    | (exact ih (s + 1) _ _ _ _ _ (by omega) (by omega) (by rw [ep, ← List.append_assoc, topA_snoc, topI.skip hsh0]; exact e2) (by rw [ep, ← List.append_assoc, topA_snoc, topI.skip hsh0]; exact e3) (by rw [ep, ← List.append_assoc, topA_snoc, topI.skip hsh0]; exact e4) e5 hM (by omega))
                                    | exact ih (s + 1) _ _ _ _ _ (by omega) (by omega) (by rw [ep]; exact e2) (by rw [ep]; exact e3) (by rw [ep]; exact e4) e5 hM (by omega)
                                · refine V_aload_n (pc' := 195) hX dX8_top_194 rfl rfl ?_
                                  refine V_dup (pc' := 196) hX dX8_top_195 rfl rfl ?_
                                  refine V_get (pc' := 199) hX dX8_top_196 hM.1 rfl inX8 18 (by decide) wF_X8_179 rfl rfl ?_
                                  refine V_iconst (pc' := 200) (v := nI 1) hX dX8_top_199 (by decide) rfl ?_
                                  refine V_iaddN (pc' := 201) hX dX8_top_200 rfl ?_
                                  refine V_put (pc' := 204) (fs' := [_, _, _, _, _, _, _, _, _, _, _, _, _, _, _, _, _, _, _, _, _, _, _, _, _, _, _, _, _, _]) (ty0 := tyX8) hX dX8_top_201 hM.1 rfl inX8 tyX8_ok nmX8 18 (by decide) wF_X8_179 rfl (tyX8_ok 18 (by decide)) rfl rfl (Nat.le_of_ble_eq_true rfl) rfl rfl ?_
                                  refine V.gen (fun hA ehA => ?_)
                                  have f9 := fr.of_up ehA
                                  have hM := hM.u0 (up_at ehA) f9
                                  have d6 := d6.tr (f9.mono (lo' := y) (hi' := y + 19) (by omega) (by omega))
                                  have hkt9 : ktOk (shE W L) (topS kd W L n KK (i, s)) (va_up m1 k i) (va_up m2 k s) (va_up m3 k (shL W (L i) (L s))) (ks4 + 1) := by
                                    rw [ht9.1]
                                    refine ⟨by rw [List.length_take, insG_len d1]; omega, fun j hj => ?_⟩
                                    rw [take_getD (by omega)]
                                    exact hrow j (by omega)
                                  try rw [eKK] at hkt9 ht9 hal9
                                  refine V_iincN (pc' := 207) (j := 1) (lv' := [_, _, _, _, _]) hX dX8_top_204 rfl rfl rfl rfl ?_
                                  refine V_goto (pc' := 36) hX dX8_top_207 rfl ?_
                                  refine V.loc2 (lv' := [some _, some _, some _, some _, none]) ⟨rfl, rfl, rfl, rfl, trivial⟩ ?_
                                  first
                                    | (exact ihq (s + 1) _ _ _ _ _ (by omega) (by omega) (by rw [ep, ← List.append_assoc, topA_snoc]; exact hkt9) (by rw [ep, ← List.append_assoc, topA_snoc]; exact ht9.2) (by rw [ep, ← List.append_assoc, topA_snoc, ht9.1]; exact hal9) d6 hM (by omega))
                                    | (exact ih (s + 1) _ _ _ _ _ (by omega) (by omega) (by rw [ep, ← List.append_assoc, topA_snoc, topI.skip hsh0]; exact e2) (by rw [ep, ← List.append_assoc, topA_snoc, topI.skip hsh0]; exact e3) (by rw [ep, ← List.append_assoc, topA_snoc, topI.skip hsh0]; exact e4) e5 hM (by omega))
                                    | exact ih (s + 1) _ _ _ _ _ (by omega) (by omega) (by rw [ep]; exact e2) (by rw [ep]; exact e3) (by rw [ep]; exact e4) e5 hM (by omega)
                              · refine V_aload_n (pc' := 125) hX dX8_top_124 rfl rfl ?_
                                refine V_get (pc' := 128) hX dX8_top_125 hM.1 rfl inX8 19 (by decide) wF_X8_51 rfl rfl ?_
                                refine V_iload (pc' := 130) hX dX8_top_128 rfl rfl ?_
                                refine V_aload_n (pc' := 131) hX dX8_top_130 rfl rfl ?_
                                refine V_get (pc' := 134) hX dX8_top_131 hM.1 rfl inX8 19 (by decide) wF_X8_51 rfl rfl ?_
                                refine V_iload (pc' := 136) hX dX8_top_134 rfl rfl ?_
                                refine V_iconst (pc' := 137) (v := nI 1) hX dX8_top_136 (by decide) rfl ?_
                                refine V_isubN (pc' := 138) hX dX8_top_137 (by omega) rfl ?_
                                refine V_ialdN (pc' := 139) (v := nI (KK.getD (k - 1) (0, 0)).1) hX dX8_top_138 hM.2.2.2.2.2.2.2.2.2.2.2.1 (by omega) (by omega) (by rw [(d2 (k - 1) (by omega)).1]) rfl ?_
                                refine V_iastN (pc' := 140) hX dX8_top_139 hM.2.2.2.2.2.2.2.2.2.2.2.1 (by omega) (by omega) rfl ?_
                                refine V.gen (fun h6 eh6 => ?_)
                                have f9 := fr.of_up eh6
                                have hM := hM.u11 (up_at eh6) f9
                                have d6 := d6.tr (f9.mono (lo' := y) (hi' := y + 19) (by omega) (by omega))
                                refine V_aload_n (pc' := 141) hX dX8_top_140 rfl rfl ?_
                                refine V_get (pc' := 144) hX dX8_top_141 hM.1 rfl inX8 20 (by decide) wF_X8_54 rfl rfl ?_
                                refine V_iload (pc' := 146) hX dX8_top_144 rfl rfl ?_
                                refine V_aload_n (pc' := 147) hX dX8_top_146 rfl rfl ?_
                                refine V_get (pc' := 150) hX dX8_top_147 hM.1 rfl inX8 20 (by decide) wF_X8_54 rfl rfl ?_
                                refine V_iload (pc' := 152) hX dX8_top_150 rfl rfl ?_
                                refine V_iconst (pc' := 153) (v := nI 1) hX dX8_top_152 (by decide) rfl ?_
                                refine V_isubN (pc' := 154) hX dX8_top_153 (by omega) rfl ?_
                                refine V_ialdN (pc' := 155) (v := nI (KK.getD (k - 1) (0, 0)).2) hX dX8_top_154 hM.2.2.2.2.2.2.2.2.2.2.2.2.1 (by omega) (by omega) (by rw [(d2 (k - 1) (by omega)).2.1]) rfl ?_
                                refine V_iastN (pc' := 156) hX dX8_top_155 hM.2.2.2.2.2.2.2.2.2.2.2.2.1 (by omega) (by omega) rfl ?_
                                refine V.gen (fun h7 eh7 => ?_)
                                have f9 := fr.of_up eh7
                                have hM := hM.u12 (up_at eh7) f9
                                have d6 := d6.tr (f9.mono (lo' := y) (hi' := y + 19) (by omega) (by omega))
                                refine V_aload_n (pc' := 157) hX dX8_top_156 rfl rfl ?_
                                refine V_get (pc' := 160) hX dX8_top_157 hM.1 rfl inX8 21 (by decide) wF_X8_57 rfl rfl ?_
                                refine V_iload (pc' := 162) hX dX8_top_160 rfl rfl ?_
                                refine V_aload_n (pc' := 163) hX dX8_top_162 rfl rfl ?_
                                refine V_get (pc' := 166) hX dX8_top_163 hM.1 rfl inX8 21 (by decide) wF_X8_57 rfl rfl ?_
                                refine V_iload (pc' := 168) hX dX8_top_166 rfl rfl ?_
                                refine V_iconst (pc' := 169) (v := nI 1) hX dX8_top_168 (by decide) rfl ?_
                                refine V_isubN (pc' := 170) hX dX8_top_169 (by omega) rfl ?_
                                refine V_ialdN (pc' := 171) (v := nI (shE W L (KK.getD (k - 1) (0, 0)))) hX dX8_top_170 hM.2.2.2.2.2.2.2.2.2.2.2.2.2.1 (by omega) (by omega) (by rw [(d2 (k - 1) (by omega)).2.2]) rfl ?_
                                refine V_iastN (pc' := 172) hX dX8_top_171 hM.2.2.2.2.2.2.2.2.2.2.2.2.2.1 (by omega) (by omega) rfl ?_
                                refine V.gen (fun h8 eh8 => ?_)
                                have f9 := fr.of_up eh8
                                have hM := hM.u13 (up_at eh8) f9
                                have d6 := d6.tr (f9.mono (lo' := y) (hi' := y + 19) (by omega) (by omega))
                                refine V_iinc (pc' := 175) (lv' := [_, _, _, _, _]) (v := nI (k - 1)) hX dX8_top_172 rfl (nI_dec (by omega)) rfl rfl ?_
                                refine V_goto (pc' := 92) hX dX8_top_175 rfl ?_
                                exact ih (k - 1) _ _ _ _ (by omega) (fun j hj => by
                                  rw [vu_ne _ _ (by omega), vu_ne _ _ (by omega), vu_ne _ _ (by omega)]; exact d2 j (by omega)) (fun j a b => by
                                  by_cases q : j = k
                                  · rw [q, vu_at, vu_at, vu_at]; exact ⟨rfl, rfl, rfl⟩
                                  · rw [vu_ne _ _ q, vu_ne _ _ q, vu_ne _ _ q]; exact d3 j (by omega) b) (fun j a b => by
                                  by_cases q : j = k - 1
                                  · rw [q]; exact c121
                                  · exact d4 j (by omega) b) d6 hM (by omega)
                        exact lk (KK.length + 1) KK.length h4 k4 k5 k6 (by omega) (fun j hj => hkt2 j (by omega)) (fun j a b => by omega) (fun j a b => by omega) e5 hM (by omega)
                      refine V_aload_n (pc' := 75) hX dX8_top_74 rfl rfl ?_
                      refine V_get (pc' := 78) hX dX8_top_75 hM.1 rfl inX8 18 (by decide) wF_X8_179 rfl rfl ?_
                      refine V_iload_n (pc' := 79) hX dX8_top_78 rfl rfl ?_
                      refine V_icmp_geN (pt := 89) (pc' := 82) hX dX8_top_79 (by omega) (by omega) rfl rfl (fun c79 => ?_) (fun c79 => ?_)
                      · refine V_iload_n (pc' := 90) hX dX8_top_89 rfl rfl ?_
                        refine V.loc2 (lv' := [some _, some _, some _, some _, none]) ⟨rfl, rfl, rfl, rfl, trivial⟩ ?_
                        have j := j1
                        first
                          | (rw [← hkl] at j; exact j)
                          | (rw [show KK.length = n by omega] at j; exact j)
                      · refine V_aload_n (pc' := 83) hX dX8_top_82 rfl rfl ?_
                        refine V_get (pc' := 86) hX dX8_top_83 hM.1 rfl inX8 18 (by decide) wF_X8_179 rfl rfl ?_
                        refine V_goto (pc' := 90) hX dX8_top_86 rfl ?_
                        refine V.loc2 (lv' := [some _, some _, some _, some _, none]) ⟨rfl, rfl, rfl, rfl, trivial⟩ ?_
                        have j := j1
                        first
                          | (rw [← hkl] at j; exact j)
                          | (rw [show KK.length = n by omega] at j; exact j)
                    · have hsh0 : shE W L (i, s) = 0 := c68
                      refine V_goto (pc' := 204) hX dX8_top_71 rfl ?_
                      try rw [eKK] at hkt9 ht9 hal9
                      refine V_iincN (pc' := 207) (j := 1) (lv' := [_, _, _, _, _]) hX dX8_top_204 rfl rfl rfl rfl ?_
                      refine V_goto (pc' := 36) hX dX8_top_207 rfl ?_
                      refine V.loc2 (lv' := [some _, some _, some _, some _, none]) ⟨rfl, rfl, rfl, rfl, trivial⟩ ?_
                      first
                        | (exact ihq (s + 1) _ _ _ _ _ (by omega) (by omega) (by rw [ep, ← List.append_assoc, topA_snoc]; exact hkt9) (by rw [ep, ← List.append_assoc, topA_snoc]; exact ht9.2) (by rw [ep, ← List.append_assoc, topA_snoc, ht9.1]; exact hal9) d6 hM (by omega))
                        | (exact ih (s + 1) _ _ _ _ _ (by omega) (by omega) (by rw [ep, ← List.append_assoc, topA_snoc, topI.skip hsh0]; exact e2) (by rw [ep, ← List.append_assoc, topA_snoc, topI.skip hsh0]; exact e3) (by rw [ep, ← List.append_assoc, topA_snoc, topI.skip hsh0]; exact e4) e5 hM (by omega))
                        | exact ih (s + 1) _ _ _ _ _ (by omega) (by omega) (by rw [ep]; exact e2) (by rw [ep]; exact e3) (by rw [ep]; exact e4) e5 hM (by omega)
          refine V.loc2 (lv' := [some _, some _, some _, some _, none]) ⟨rfl, rfl, rfl, rfl, trivial⟩ ?_
          exact lq (mk + 1) (i + 1) h3 k1 k2 k3 ks3 (by omega) (by omega) (by rw [prS_nil (Nat.le_refl _), List.append_nil]; exact b2) (by rw [prS_nil (Nat.le_refl _), List.append_nil]; exact b3) (by rw [prS_nil (Nat.le_refl _), List.append_nil]; exact b4) f0 hM (by omega)
    refine V.loc2 (lv' := [some _, some _, some _, none, none]) ⟨rfl, rfl, rfl, trivial⟩ ?_
    exact lp (mk + 1) 0 h1 g1 g2 g3 0 (by omega) ⟨rfl, fun j hj => by omega⟩ topI.nil (fun e he => by cases he) f0 hM (by omega)
  · refine V_iconst (pc' := 16) (v := (-1)) hX dX8_top_15 (by decide) rfl ?_
    refine V_iret hX hR dX8_top_16 ?_
    exact ⟨rfl, f0, Or.inl ⟨of_decide_eq_false c12, rfl, hM⟩⟩
set_option maxRecDepth 100000 in
set_option maxHeartbeats 4000000 in
theorem c_Md_at {G : Gd} {z : Nat} {h : AH} {y : Nat} {th : Int32} {mk : Nat} {ts : Nat} {fs : Nat} {kd : Nat} {p : Nat} {q : Nat} {len : Nat} {ks : Nat} {fm : Nat} {cm : Nat} {be : Nat} {dz : Nat → Bool} {mn : Nat → Nat} {st : Nat → Nat} {tn : Nat → Nat} {tv : Nat → Nat} {fn : Nat → Nat} {fv : Nat → Nat} {on : Nat → Nat} {tw : Nat → Nat} {bf : Nat → Nat} {g1 : Nat → Nat} {g2 : Nat → Nat} {g3 : Nat → Nat} {sv : Nat → Nat} {fa : Nat → Int32} {fy : Nat → Nat} {bs : Nat → Nat} {cf : Nat → Nat} {av : Nat → Bool} {M L : Nat → List Nat} {W F : Nat → Nat} (r i : Int32) (hI : mdI mk ts fs kd p q av M L W F dz mn st tn tv fn fv) (hM : mdC G h y th mk ts fs kd p q len ks fm cm be dz mn st tn tv fn fv on tw bf g1 g2 g3 sv fa fy bs cf)  : Ct G yX8_at cX8_at 3 (some .int) 3 0 0 [.ref y, .int r, .int i] z h (fun r' z' h' => z' = z ∧ fr y (y + 19) h h' ∧ ∃ on' w, r' = some (.int w) ∧ ((avI av r = false ∧ w = -1) ∨ ∃ k, r = nI k ∧ av k = true ∧ ((∃ j, j < (L k).length ∧ i = nI j ∧ w = nI ((L k).getD j 0)) ∨ ((i.toInt < 0 ∨ ((L k).length : Int) ≤ i.toInt) ∧ w = -1))) ∧ mdC G h' y (nI 0) mk ts fs kd p q len ks fm cm be dz mn st tn tv fn fv (on') tw bf g1 g2 g3 sv fa fy bs cf) := by
  refine Ct.of (lv := [_, _, _]) (by decide) (Nat.le_of_ble_eq_true rfl) rfl ?_
  rintro X rfl hX hR hnm
  obtain ⟨⟨hmk, hav, hdz⟩, hS, hT, hK, hL, hmo, hemp⟩ := id hI
  have z0 : (nI 0).toInt = 0 := by decide
  refine V_aload_n (pc' := 1) hX dX8_at_0 rfl rfl ?_
  refine V_iconst (pc' := 2) (v := nI 0) hX dX8_at_1 (by decide) rfl ?_
  refine V_put (pc' := 5) (fs' := [_, _, _, _, _, _, _, _, _, _, _, _, _, _, _, _, _, _, _, _, _, _, _, _, _, _, _, _, _, _]) (ty0 := tyX8) hX dX8_at_2 hM.1 rfl inX8 tyX8_ok nmX8 0 (by decide) wF_X8_75 rfl (tyX8_ok 0 (by decide)) rfl rfl (Nat.le_of_ble_eq_true rfl) rfl rfl ?_
  refine V.gen (fun h0 eh0 => ?_)
  have f0 := fr.of_up eh0
  have hM := hM.u0 (up_at eh0) f0
  have f0 := f0.mono (lo' := y) (hi' := y + 19) (by omega) (by omega)
  refine V_aload_n (pc' := 6) hX dX8_at_5 rfl rfl ?_
  refine V_iload_n (pc' := 7) hX dX8_at_6 rfl rfl ?_
  refine V_callV (nA := 1) (pc' := 10) (k' := 0) (n' := 0) hX dX8_at_7 (c_Md_is r hI hM) hM.1 rfl wM_X8_85 wI_X8_is wL_X8_is wN_X8 wC_X8_is rfl hy_X8_is rfl (Nat.le_of_ble_eq_true rfl) (by decide) (by omega) rfl rfl (by omega) rfl (by omega) rfl ?_
  rintro _ z h0 ⟨rfl, rfl, rfl⟩
  refine V.stk (st' := [_]) rfl ?_
  refine V_if_eqB (pt := 29) (pc' := 13) hX dX8_at_10 rfl rfl (fun c10 => ?_) (fun c10 => ?_)
  · refine V_iconst (pc' := 30) (v := (-1)) hX dX8_at_29 (by decide) rfl ?_
    refine V_iret hX hR dX8_at_30 ?_
    exact ⟨rfl, f0, _, _, rfl, Or.inl ⟨c10, rfl⟩, hM⟩
  · obtain ⟨k, hk31, rfl, hk⟩ := avI_yes c10
    have hkm := hav k hk
    have hkl := hI.ll hk
    refine V_iload_n (pc' := 14) hX dX8_at_13 rfl rfl ?_
    refine V_iconst (pc' := 15) (v := nI 0) hX dX8_at_14 (by decide) rfl ?_
    refine V_aload_n (pc' := 16) hX dX8_at_15 rfl rfl ?_
    refine V_get (pc' := 19) hX dX8_at_16 hM.1 rfl inX8 3 (by decide) wF_X8_13 rfl rfl ?_
    refine V_iload_n (pc' := 20) hX dX8_at_19 rfl rfl ?_
    refine V_ialdN (pc' := 21) (v := nI (L k).length) hX dX8_at_20 hM.2.2.1 (by omega) (by omega) (by rw [hI.mn hk]) rfl ?_
    refine V_iconst (pc' := 22) (v := nI 1) hX dX8_at_21 (by decide) rfl ?_
    refine V_isub (pc' := 23) hX dX8_at_22 rfl ?_
    refine V_callS (nA := 3) (pc' := 26) (k' := 0) (n' := 0) hX dX8_at_23 (c_Md_in i (nI 0) (nI (L k).length - nI 1)) wM_X8_81 wS_X8_in wN_X8 wC_X8_in rfl hy_X8_in rfl (Nat.le_of_ble_eq_true rfl) (by decide) (by omega) rfl rfl (by omega) rfl (by omega) rfl ?_
    rintro _ z h0 ⟨rfl, rfl, rfl⟩
    rw [nIm1 (show (L k).length < 2 ^ 31 by omega), z0]
    refine V.stk (st' := [_]) rfl ?_
    refine V_if_neB (pt := 31) (pc' := 29) hX dX8_at_26 rfl rfl (fun c26 => ?_) (fun c26 => ?_)
    · have hc := of_decide_eq_true c26
      obtain ⟨j, hj31, rfl⟩ := nI_of (x := i) (by rw [i32_lt]; show ¬ _ < (0 : Int); omega)
      rw [nI_toInt hj31] at hc
      refine V_aload_n (pc' := 32) hX dX8_at_31 rfl rfl ?_
      refine V_iload_n (pc' := 33) hX dX8_at_32 rfl rfl ?_
      refine V_aload_n (pc' := 34) hX dX8_at_33 rfl rfl ?_
      refine V_get (pc' := 37) hX dX8_at_34 hM.1 rfl inX8 14 (by decide) wF_X8_42 rfl rfl ?_
      refine V_callV (nA := 2) (pc' := 40) (k' := 0) (n' := 0) hX dX8_at_37 (c_Md_sort1 k hk hI hM) hM.1 rfl wM_X8_157 wI_X8_sort wL_X8_sort wN_X8 wC_X8_sort rfl hy_X8_sort rfl (Nat.le_of_ble_eq_true rfl) (by decide) (by omega) rfl rfl (by omega) rfl (by omega) rfl ?_
      rintro _ z h1 ⟨rfl, rfl, f1, o1, ho1, hM⟩
      have f0 := f0.tr (f1.mono (lo' := y) (hi' := y + 19) (by omega) (by omega))
      refine V.stk (st' := []) rfl ?_
      refine V_aload_n (pc' := 41) hX dX8_at_40 rfl rfl ?_
      refine V_get (pc' := 44) hX dX8_at_41 hM.1 rfl inX8 14 (by decide) wF_X8_42 rfl rfl ?_
      refine V_iload_n (pc' := 45) hX dX8_at_44 rfl rfl ?_
      refine V_ialdN (pc' := 46) (v := nI ((L k).getD j 0)) hX dX8_at_45 hM.2.2.2.2.2.2.2.2.1 (by omega) (by omega) (by rw [ho1 j (by omega)]) rfl ?_
      refine V_iret hX hR dX8_at_46 ?_
      exact ⟨rfl, f0, _, _, rfl, Or.inr ⟨k, rfl, hk, Or.inl ⟨j, by omega, rfl, rfl⟩⟩, hM⟩
    · refine V_iconst (pc' := 30) (v := (-1)) hX dX8_at_29 (by decide) rfl ?_
      refine V_iret hX hR dX8_at_30 ?_
      have hc := of_decide_eq_false c26
      exact ⟨rfl, f0, _, _, rfl, Or.inr ⟨k, rfl, hk, Or.inr ⟨by omega, rfl⟩⟩, hM⟩
set_option maxRecDepth 100000 in
set_option maxHeartbeats 4000000 in
theorem c_Md_member {G : Gd} {z : Nat} {h : AH} {y : Nat} {th : Int32} {mk : Nat} {ts : Nat} {fs : Nat} {kd : Nat} {p : Nat} {q : Nat} {len : Nat} {ks : Nat} {fm : Nat} {cm : Nat} {be : Nat} {dz : Nat → Bool} {mn : Nat → Nat} {st : Nat → Nat} {tn : Nat → Nat} {tv : Nat → Nat} {fn : Nat → Nat} {fv : Nat → Nat} {on : Nat → Nat} {tw : Nat → Nat} {bf : Nat → Nat} {g1 : Nat → Nat} {g2 : Nat → Nat} {g3 : Nat → Nat} {sv : Nat → Nat} {fa : Nat → Int32} {fy : Nat → Nat} {bs : Nat → Nat} {cf : Nat → Nat} (i : Int32) (hcm : cm ≤ 20) (hM : mdC G h y th mk ts fs kd p q len ks fm cm be dz mn st tn tv fn fv on tw bf g1 g2 g3 sv fa fy bs cf)  : Ct G yX8_member cX8_member 2 (some .int) 1 0 0 [.ref y, .int i] z h (fun r' z' h' => z' = z ∧ fr y (y + 19) h h' ∧ ∃ w, r' = some (.int w) ∧ ((∃ j, j < cm ∧ i = nI j ∧ w = nI (cf j)) ∨ ((i.toInt < 0 ∨ (cm : Int) ≤ i.toInt) ∧ w = -1)) ∧ mdC G h' y (nI 0) mk ts fs kd p q len ks fm cm be dz mn st tn tv fn fv on tw bf g1 g2 g3 sv fa fy bs cf) := by
  refine Ct.of (lv := [_, _]) (by decide) (Nat.le_of_ble_eq_true rfl) rfl ?_
  rintro X rfl hX hR hnm
  have z0 : (nI 0).toInt = 0 := by decide
  refine V_aload_n (pc' := 1) hX dX8_member_0 rfl rfl ?_
  refine V_iconst (pc' := 2) (v := nI 0) hX dX8_member_1 (by decide) rfl ?_
  refine V_put (pc' := 5) (fs' := [_, _, _, _, _, _, _, _, _, _, _, _, _, _, _, _, _, _, _, _, _, _, _, _, _, _, _, _, _, _]) (ty0 := tyX8) hX dX8_member_2 hM.1 rfl inX8 tyX8_ok nmX8 0 (by decide) wF_X8_75 rfl (tyX8_ok 0 (by decide)) rfl rfl (Nat.le_of_ble_eq_true rfl) rfl rfl ?_
  refine V.gen (fun h0 eh0 => ?_)
  have f0 := fr.of_up eh0
  have hM := hM.u0 (up_at eh0) f0
  have f0 := f0.mono (lo' := y) (hi' := y + 19) (by omega) (by omega)
  refine V_iload_n (pc' := 6) hX dX8_member_5 rfl rfl ?_
  refine V_iconst (pc' := 7) (v := nI 0) hX dX8_member_6 (by decide) rfl ?_
  refine V_aload_n (pc' := 8) hX dX8_member_7 rfl rfl ?_
  refine V_get (pc' := 11) hX dX8_member_8 hM.1 rfl inX8 25 (by decide) wF_X8_212 rfl rfl ?_
  refine V_iconst (pc' := 12) (v := nI 1) hX dX8_member_11 (by decide) rfl ?_
  refine V_isub (pc' := 13) hX dX8_member_12 rfl ?_
  refine V_callS (nA := 3) (pc' := 16) (k' := 0) (n' := 0) hX dX8_member_13 (c_Md_in i (nI 0) (nI cm - nI 1)) wM_X8_81 wS_X8_in wN_X8 wC_X8_in rfl hy_X8_in rfl (Nat.le_of_ble_eq_true rfl) (by decide) (by omega) rfl rfl (by omega) rfl (by omega) rfl ?_
  rintro _ z h0 ⟨rfl, rfl, rfl⟩
  rw [nIm1 (show cm < 2 ^ 31 by omega), z0]
  refine V.stk (st' := [_]) rfl ?_
  refine V_if_eqB (pt := 28) (pc' := 19) hX dX8_member_16 rfl rfl (fun c16 => ?_) (fun c16 => ?_)
  · refine V_iconst (pc' := 29) (v := (-1)) hX dX8_member_28 (by decide) rfl ?_
    refine V_iret hX hR dX8_member_29 ?_
    have hc := of_decide_eq_false c16
    exact ⟨rfl, f0, _, rfl, Or.inr ⟨by omega, rfl⟩, hM⟩
  · have hc := of_decide_eq_true c16
    obtain ⟨j, hj31, rfl⟩ := nI_of (x := i) (by rw [i32_lt]; show ¬ _ < (0 : Int); omega)
    rw [nI_toInt hj31] at hc
    refine V_aload_n (pc' := 20) hX dX8_member_19 rfl rfl ?_
    refine V_get (pc' := 23) hX dX8_member_20 hM.1 rfl inX8 28 (by decide) wF_X8_72 rfl rfl ?_
    refine V_iload_n (pc' := 24) hX dX8_member_23 rfl rfl ?_
    refine V_ialdN (pc' := 25) hX dX8_member_24 hM.2.2.2.2.2.2.2.2.2.2.2.2.2.2.2.2.2.2 (by omega) (by omega) rfl rfl ?_
    refine V_goto (pc' := 29) hX dX8_member_25 rfl ?_
    refine V_iret hX hR dX8_member_29 ?_
    exact ⟨rfl, f0, _, rfl, Or.inl ⟨j, by omega, rfl, rfl⟩, hM⟩
