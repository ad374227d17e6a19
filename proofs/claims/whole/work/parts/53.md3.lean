theorem tnL_le {bf : Nat → Nat} {q : Nat} : ∀ n, (tnL bf q n).length ≤ n
  | 0 => Nat.le_refl _
  | n + 1 => by
    have := tnL_le (bf := bf) (q := q) n
    rw [tnL_s, List.length_append]
    split <;> simp <;> omega
/-! the frequencies, as the model counts them -/
def allM (av : Nat → Bool) (M : Nat → List Nat) : Nat → List Nat
  | 0 => []
  | n + 1 => allM av M n ++ (if av n = true then M n else [])
def kO (A : List Nat) (fs : Nat) (fn fv : Nat → Nat) : Prop := (∀ i, i < fs → fn i < 1000000) ∧ (∀ i j, i < j → j < fs → fn i ≠ fn j) ∧ ∀ u, tget fn fv fs u = cntO A u
theorem tget_congr {fn fv fn' fv' : Nat → Nat} {u : Nat} : ∀ {n : Nat}, (∀ j, j < n → fn' j = fn j ∧ fv' j = fv j) → tget fn' fv' n u = tget fn fv n u
  | 0, _ => rfl
  | n + 1, h => by
    show (if fn' n = u then some (fv' n) else tget fn' fv' n u) = if fn n = u then some (fv n) else tget fn fv n u
    rw [(h n (by omega)).1, (h n (by omega)).2, tget_congr (fun j hj => h j (by omega))]
theorem kO.new {A : List Nat} {fs v : Nat} {fn fv : Nat → Nat} (h : kO A fs fn fv) (hv : v < 1000000) (hn : ∀ t, t < fs → fn t ≠ v) : kO (A ++ [v]) (fs + 1) (va_up fn fs v) (va_up (va_up fv fs 0) fs (0 + 1)) := by
  obtain ⟨h1, h2, h3⟩ := h
  refine ⟨fun i hi => ?_, fun i j hij hj => ?_, fun u => ?_⟩
  · by_cases e : i = fs
    · rw [e, vu_at]; exact hv
    · rw [vu_ne _ _ e]; exact h1 i (by omega)
  · by_cases e : j = fs
    · rw [e, vu_at, vu_ne _ _ (by omega)]; exact hn i (by omega)
    · rw [vu_ne _ _ e, vu_ne _ _ (by omega)]; exact h2 i j hij (by omega)
  · rw [cntO_snoc]
    show (if va_up fn fs v fs = u then some (va_up (va_up fv fs 0) fs (0 + 1) fs) else tget (va_up fn fs v) (va_up (va_up fv fs 0) fs (0 + 1)) fs u) = _
    rw [vu_at, vu_at, tget_congr (fn := fn) (fv := fv) (fun j hj => ⟨vu_ne _ _ (by omega), by rw [vu_ne _ _ (by omega), vu_ne _ _ (by omega)]⟩)]
    by_cases e : u = v
    · rw [if_pos e.symm, if_pos e, ← h3 v, tget_no.mpr hn]; rfl
    · rw [if_neg (fun q => e q.symm), if_neg e, h3 u]
theorem kO.old {A : List Nat} {fs k v : Nat} {fn fv : Nat → Nat} (h : kO A fs fn fv) (hk : k < fs) (e : fn k = v) : kO (A ++ [v]) fs fn (va_up fv k (fv k + 1)) := by
  obtain ⟨h1, h2, h3⟩ := h
  refine ⟨h1, h2, fun u => ?_⟩
  rw [cntO_snoc, ← h3 v, ← e, tget_first h2 hk]
  by_cases q : u = fn k
  · rw [if_pos q, q, tget_first h2 hk, vu_at]; rfl
  · rw [if_neg q, ← h3 u]
    refine opt_ext fun x => ?_
    constructor
    · intro hx
      obtain ⟨j, j1, j2, j3⟩ := tget_mem hx
      have hjk : j ≠ k := fun w => q (by rw [← j2, w])
      rw [vu_ne _ _ hjk] at j3
      rw [← j2, tget_first h2 j1, j3]
    · intro hx
      obtain ⟨j, j1, j2, j3⟩ := tget_mem hx
      have hjk : j ≠ k := fun w => q (by rw [← j2, w])
      rw [← j2, tget_first h2 j1, vu_ne _ _ hjk, j3]
set_option maxRecDepth 100000 in
set_option maxHeartbeats 4000000 in
theorem c_Md_text {G : Gd} {z : Nat} {h : AH} {y : Nat} {th : Int32} {mk : Nat} {ts : Nat} {fs : Nat} {kd : Nat} {p : Nat} {q : Nat} {len : Nat} {ks : Nat} {fm : Nat} {cm : Nat} {be : Nat} {dz : Nat → Bool} {mn : Nat → Nat} {st : Nat → Nat} {tn : Nat → Nat} {tv : Nat → Nat} {fn : Nat → Nat} {fv : Nat → Nat} {on : Nat → Nat} {tw : Nat → Nat} {bf : Nat → Nat} {g1 : Nat → Nat} {g2 : Nat → Nat} {g3 : Nat → Nat} {sv : Nat → Nat} {fa : Nat → Int32} {fy : Nat → Nat} {bs : Nat → Nat} {cf : Nat → Nat} {av : Nat → Bool} {M L : Nat → List Nat} {W F : Nat → Nat} (rv qv : Int32) (hPO : tpOk bf len) (hI : mdI mk ts fs kd p q av M L W F dz mn st tn tv fn fv) (hM : mdC G h y th mk ts fs kd p q len ks fm cm be dz mn st tn tv fn fv on tw bf g1 g2 g3 sv fa fy bs cf)  : Ct G yX8_text cX8_text 8 (some .int) 2 0 0 [.ref y, .int rv, .int qv] z h (fun r' z' h' => z' = z ∧ fr y (y + 19) h h' ∧ (((avI av rv = false ∨ ¬ (1 ≤ qv.toInt ∧ qv.toInt ≤ 2)) ∧ r' = some (.int (-1)) ∧ mdC G h' y (nI 0) mk ts fs kd p q len ks fm cm be dz mn st tn tv fn fv on tw bf g1 g2 g3 sv fa fy bs cf) ∨ ∃ r qq, rv = nI r ∧ av r = true ∧ qv = nI qq ∧ (qq = 1 ∨ qq = 2) ∧ ((30 < (tnL bf qq (len + 1 - qq)).length ∧ r' = some (.int (-1)) ∧ mdC G h' y (nI 0) mk ts fs kd p q len ks fm cm be dz mn st tn tv fn fv on tw bf g1 g2 g3 sv fa fy bs cf) ∨ ((tnL bf qq (len + 1 - qq)).length ≤ 30 ∧ r' = some (.int (nI (tnL bf qq (len + 1 - qq)).length)) ∧ ∃ st', (∀ j, j < (tnL bf qq (len + 1 - qq)).length → st' (30 * r + j) = (tnL bf qq (len + 1 - qq)).getD j 0) ∧ (∀ e, e < 30 * r ∨ 30 * r + 30 ≤ e → st' e = st e) ∧ mdC G h' y (nI 0) mk ts fs kd p q (0) ks fm cm be dz (va_up mn r (tnL bf qq (len + 1 - qq)).length) (st') tn tv fn fv on tw bf g1 g2 g3 sv fa fy bs cf)))) := by
  refine Ct.of (lv := [_, _, _, _, _, _, _, _]) (by decide) (Nat.le_of_ble_eq_true rfl) rfl ?_
  rintro X rfl hX hR hnm
  obtain ⟨⟨hmk, hav, hdz⟩, hS, hT, hK, hL, hmo, hemp⟩ := id hI
  have hl80 := hPO.1
  refine V_aload_n (pc' := 1) hX dX8_text_0 rfl rfl ?_
  refine V_iconst (pc' := 2) (v := nI 0) hX dX8_text_1 (by decide) rfl ?_
  refine V_put (pc' := 5) (fs' := [_, _, _, _, _, _, _, _, _, _, _, _, _, _, _, _, _, _, _, _, _, _, _, _, _, _, _, _, _, _]) (ty0 := tyX8) hX dX8_text_2 hM.1 rfl inX8 tyX8_ok nmX8 0 (by decide) wF_X8_75 rfl (tyX8_ok 0 (by decide)) rfl rfl (Nat.le_of_ble_eq_true rfl) rfl rfl ?_
  refine V.gen (fun h0 eh0 => ?_)
  have f0 := fr.of_up eh0
  have hM := hM.u0 (up_at eh0) f0
  have f0 := f0.mono (lo' := y) (hi' := y + 19) (by omega) (by omega)
  refine V_aload_n (pc' := 6) hX dX8_text_5 rfl rfl ?_
  refine V_iload_n (pc' := 7) hX dX8_text_6 rfl rfl ?_
  refine V_callV (nA := 1) (pc' := 10) (k' := 0) (n' := 0) hX dX8_text_7 (c_Md_is rv hI hM) hM.1 rfl wM_X8_85 wI_X8_is wL_X8_is wN_X8 wC_X8_is rfl hy_X8_is rfl (Nat.le_of_ble_eq_true rfl) (by decide) (by omega) rfl rfl (by omega) rfl (by omega) rfl ?_
  rintro _ z h0 ⟨rfl, rfl, rfl⟩
  refine V.stk (st' := [_]) rfl ?_
  refine V_if_eqB (pt := 22) (pc' := 13) hX dX8_text_10 rfl rfl (fun c10 => ?_) (fun c10 => ?_)
  · refine V_iconst (pc' := 23) (v := (-1)) hX dX8_text_22 (by decide) rfl ?_
    refine V_iret hX hR dX8_text_23 ?_
    exact ⟨rfl, f0, Or.inl ⟨Or.inl c10, rfl, hM⟩⟩
  · obtain ⟨r, hr31, rfl, hr⟩ := avI_yes c10
    have hrm := hav r hr
    refine V_iload_n (pc' := 14) hX dX8_text_13 rfl rfl ?_
    refine V_iconst (pc' := 15) (v := nI 1) hX dX8_text_14 (by decide) rfl ?_
    refine V_iconst (pc' := 16) (v := nI 2) hX dX8_text_15 (by decide) rfl ?_
    refine V_callS (nA := 3) (pc' := 19) (k' := 0) (n' := 0) hX dX8_text_16 (c_Md_in qv (nI 1) (nI 2)) wM_X8_81 wS_X8_in wN_X8 wC_X8_in rfl hy_X8_in rfl (Nat.le_of_ble_eq_true rfl) (by decide) (by omega) rfl rfl (by omega) rfl (by omega) rfl ?_
    rintro _ z h0 ⟨rfl, rfl, rfl⟩
    rw [show (nI 1).toInt = 1 by decide, show (nI 2).toInt = 2 by decide]
    refine V.stk (st' := [_]) rfl ?_
    refine V_if_neB (pt := 24) (pc' := 22) hX dX8_text_19 rfl rfl (fun c19 => ?_) (fun c19 => ?_)
    · have hc := of_decide_eq_true c19
      obtain ⟨qq, hq31, rfl⟩ := nI_of (x := qv) (by rw [i32_lt]; show ¬ _ < (0 : Int); omega)
      rw [nI_toInt hq31] at hc
      have hq2 : qq = 1 ∨ qq = 2 := by omega
      refine V_iconst (pc' := 25) (v := nI 0) hX dX8_text_24 (by decide) rfl ?_
      refine V_istore_n (pc' := 26) (lv' := [_, _, _, _, _, _, _, _]) hX dX8_text_25 (Nat.le_of_ble_eq_true rfl) rfl rfl ?_
      refine V_iconst (pc' := 27) (v := nI 0) hX dX8_text_26 (by decide) rfl ?_
      refine V_istore (pc' := 29) (lv' := [_, _, _, _, _, _, _, _]) hX dX8_text_27 (Nat.le_of_ble_eq_true rfl) rfl rfl ?_
      have lp : ∀ (μ ρ n : Nat) (h2 : AH) (st2 : Nat → Nat), ρ ≤ 2 → (ρ ≠ 0 → n = (tnL bf qq (len + 1 - qq)).length ∧ (tnL bf qq (len + 1 - qq)).length ≤ 30) → (ρ ≤ 1 → st2 = st) → (ρ = 2 → ∀ j, j < (tnL bf qq (len + 1 - qq)).length → st2 (30 * r + j) = (tnL bf qq (len + 1 - qq)).getD j 0) → (∀ e, e < 30 * r ∨ 30 * r + 30 ≤ e → st2 e = st e) → fr y (y + 19) h h2 → mdC X.G h2 y (nI 0) mk ts fs kd p q len ks fm cm be dz mn (st2) tn tv fn fv on tw bf g1 g2 g3 sv fa fy bs cf → 2 - ρ < μ → V X 0 0 z h2 29 [some (.ref y), some (.int (nI r)), some (.int (nI qq)), some (.int (nI n)), some (.int (nI ρ)), none, none, none] [] := by
        intro μ
        induction μ with
        | zero => intros; omega
        | succ μ ih =>
          intro ρ n h2 st2 b1 b2 b3 b4 b5 f0 hM b7
          refine V_iload (pc' := 31) hX dX8_text_29 rfl rfl ?_
          refine V_iconst (pc' := 32) (v := nI 2) hX dX8_text_31 (by decide) rfl ?_
          refine V_icmp_geN (pt := 160) (pc' := 35) hX dX8_text_32 (by omega) (by omega) rfl rfl (fun c32 => ?_) (fun c32 => ?_)
          · have er : ρ = 2 := by omega
            obtain ⟨en, hT30⟩ := b2 (by omega)
            subst en
            refine V_aload_n (pc' := 161) hX dX8_text_160 rfl rfl ?_
            refine V_get (pc' := 164) hX dX8_text_161 hM.1 rfl inX8 3 (by decide) wF_X8_13 rfl rfl ?_
            refine V_iload_n (pc' := 165) hX dX8_text_164 rfl rfl ?_
            refine V_iload_n (pc' := 166) hX dX8_text_165 rfl rfl ?_
            refine V_iastN (pc' := 167) hX dX8_text_166 hM.2.2.1 (by omega) (by omega) rfl ?_
            refine V.gen (fun h5 eh5 => ?_)
            have fh5 := fr.of_up eh5
            have hM := hM.u2 (up_at eh5) fh5
            have f0 := f0.tr (fh5.mono (lo' := y) (hi' := y + 19) (by omega) (by omega))
            refine V_aload_n (pc' := 168) hX dX8_text_167 rfl rfl ?_
            refine V_iconst (pc' := 169) (v := nI 0) hX dX8_text_168 (by decide) rfl ?_
            refine V_put (pc' := 172) (fs' := [_, _, _, _, _, _, _, _, _, _, _, _, _, _, _, _, _, _, _, _, _, _, _, _, _, _, _, _, _, _]) (ty0 := tyX8) hX dX8_text_169 hM.1 rfl inX8 tyX8_ok nmX8 17 (by decide) wF_X8_117 rfl (tyX8_ok 17 (by decide)) rfl rfl (Nat.le_of_ble_eq_true rfl) rfl rfl ?_
            refine V.gen (fun h6 eh6 => ?_)
            have fh6 := fr.of_up eh6
            have hM := hM.u0 (up_at eh6) fh6
            have f0 := f0.tr (fh6.mono (lo' := y) (hi' := y + 19) (by omega) (by omega))
            refine V_iload_n (pc' := 173) hX dX8_text_172 rfl rfl ?_
            refine V_iret hX hR dX8_text_173 ?_
            exact ⟨rfl, f0, Or.inr ⟨r, qq, rfl, hr, rfl, hq2, Or.inr ⟨hT30, rfl, st2, b4 er, b5, hM⟩⟩⟩
          · have ihO := ih
            refine V_iconst (pc' := 36) (v := nI 0) hX dX8_text_35 (by decide) rfl ?_
            refine V_istore_n (pc' := 37) (lv' := [_, _, _, _, _, _, _, _]) hX dX8_text_36 (Nat.le_of_ble_eq_true rfl) rfl rfl ?_
            refine V_iconst (pc' := 38) (v := nI 0) hX dX8_text_37 (by decide) rfl ?_
            refine V_istore (pc' := 40) (lv' := [_, _, _, _, _, _, _, _]) hX dX8_text_38 (Nat.le_of_ble_eq_true rfl) rfl rfl ?_
            have lq : ∀ (ν i : Nat) (h3 : AH) (st3 : Nat → Nat), i ≤ len + 1 - qq → (ρ = 0 → st3 = st) → (ρ = 1 → ∀ j, j < (tnL bf qq i).length → st3 (30 * r + j) = (tnL bf qq i).getD j 0) → (∀ e, e < 30 * r ∨ 30 * r + 30 ≤ e → st3 e = st e) → fr y (y + 19) h h3 → mdC X.G h3 y (nI 0) mk ts fs kd p q len ks fm cm be dz mn (st3) tn tv fn fv on tw bf g1 g2 g3 sv fa fy bs cf → len + 1 - qq - i < ν → V X 0 0 z h3 40 [some (.ref y), some (.int (nI r)), some (.int (nI qq)), some (.int (nI (tnL bf qq i).length)), some (.int (nI ρ)), some (.int (nI i)), none, none] [] := by
              intro μ
              induction μ with
              | zero => intros; omega
              | succ μ ih =>
                intro i h3 st3 e1 e2 e3 e4 e5 hM e7
                have hni := tnL_le (bf := bf) (q := qq) i
                refine V_iload (pc' := 42) hX dX8_text_40 rfl rfl ?_
                refine V_iload_n (pc' := 43) hX dX8_text_42 rfl rfl ?_
                refine V_iaddN (pc' := 44) hX dX8_text_43 rfl ?_
                refine V_aload_n (pc' := 45) hX dX8_text_44 rfl rfl ?_
                refine V_get (pc' := 48) hX dX8_text_45 hM.1 rfl inX8 17 (by decide) wF_X8_117 rfl rfl ?_
                refine V_icmp_gtN (pt := 146) (pc' := 51) hX dX8_text_48 (by omega) (by omega) rfl rfl (fun c48 => ?_) (fun c48 => ?_)
                · have ei : i = len + 1 - qq := by omega
                  rw [ei] at e3 hni
                  rw [ei]
                  refine V_iload_n (pc' := 147) hX dX8_text_146 rfl rfl ?_
                  refine V_bipush (pc' := 149) (v := nI 30) hX dX8_text_147 (by decide) rfl ?_
                  refine V_icmp_leN (pt := 154) (pc' := 152) hX dX8_text_149 (by omega) (by omega) rfl rfl (fun c149 => ?_) (fun c149 => ?_)
                  · refine V_iincN (pc' := 157) (j := 1) (lv' := [_, _, _, _, _, _, _, _]) hX dX8_text_154 rfl rfl rfl rfl ?_
                    refine V_goto (pc' := 29) hX dX8_text_157 rfl ?_
                    refine V.loc2 (lv' := [some _, some _, some _, some _, some _, none, none, none]) ⟨rfl, rfl, rfl, rfl, rfl, trivial⟩ ?_
                    exact ihO (ρ + 1) _ _ _ (by omega) (fun _ => ⟨rfl, by omega⟩) (fun e => e2 (by omega)) (fun e => e3 (by omega)) e4 e5 hM (by omega)
                  · refine V_iconst (pc' := 153) (v := (-1)) hX dX8_text_152 (by decide) rfl ?_
                    refine V_iret hX hR dX8_text_153 ?_
                    have er : ρ = 0 := by
                      by_cases q9 : ρ = 0
                      · exact q9
                      · have := (b2 q9).2; omega
                    have es := e2 er
                    rw [es] at hM
                    exact ⟨rfl, e5, Or.inr ⟨r, qq, rfl, hr, rfl, hq2, Or.inl ⟨by omega, rfl, hM⟩⟩⟩
                · have ihq := ih
                  refine V_iconst (pc' := 52) (v := nI 0) hX dX8_text_51 (by decide) rfl ?_
                  refine V_istore (pc' := 54) (lv' := [_, _, _, _, _, _, _, _]) hX dX8_text_52 (Nat.le_of_ble_eq_true rfl) rfl rfl ?_
                  refine V_iconst (pc' := 55) (v := nI 0) hX dX8_text_54 (by decide) rfl ?_
                  refine V_istore (pc' := 57) (lv' := [_, _, _, _, _, _, _, _]) hX dX8_text_55 (Nat.le_of_ble_eq_true rfl) rfl rfl ?_
                  have lr : ∀ (κ j : Nat), j ≤ i → i - j < κ → V X 0 0 z h3 57 [some (.ref y), some (.int (nI r)), some (.int (nI qq)), some (.int (nI (tnL bf qq i).length)), some (.int (nI ρ)), some (.int (nI i)), some (.int (nI (cnL bf qq i j))), some (.int (nI j))] [] := by
                    intro μ
                    induction μ with
                    | zero => intros; omega
                    | succ μ ih =>
                      intro j d1 d2
                      have hcj := cnL_le (bf := bf) (q := qq) (i := i) j
                      refine V_iload (pc' := 59) hX dX8_text_57 rfl rfl ?_
                      refine V_iload (pc' := 61) hX dX8_text_59 rfl rfl ?_
                      refine V_icmp_geN (pt := 97) (pc' := 64) hX dX8_text_61 (by omega) (by omega) rfl rfl (fun c61 => ?_) (fun c61 => ?_)
                      · have ej : j = i := by omega
                        rw [ej]
                        have hci := cnL_le (bf := bf) (q := qq) (i := i) i
                        refine V_iload (pc' := 99) hX dX8_text_97 rfl rfl ?_
                        refine V_bipush (pc' := 101) (v := nI 8) hX dX8_text_99 (by decide) rfl ?_
                        refine V_icmp_ltN (pt := 107) (pc' := 104) hX dX8_text_101 (by omega) (by omega) rfl rfl (fun c101 => ?_) (fun c101 => ?_)
                        · refine V_iload (pc' := 109) hX dX8_text_107 rfl rfl ?_
                          refine V_iconst (pc' := 110) (v := nI 1) hX dX8_text_109 (by decide) rfl ?_
                          refine V_icmp_neN (pt := 137) (pc' := 113) hX dX8_text_110 (by omega) (by omega) rfl rfl (fun c110 => ?_) (fun c110 => ?_)
                          · refine V_iincN (pc' := 140) (j := 1) (lv' := [_, _, _, _, _, _, _, _]) hX dX8_text_137 rfl rfl rfl rfl ?_
                            refine V_iincN (pc' := 143) (j := 1) (lv' := [_, _, _, _, _, _, _, _]) hX dX8_text_140 rfl rfl rfl rfl ?_
                            refine V_goto (pc' := 40) hX dX8_text_143 rfl ?_
                            refine V.loc2 (lv' := [some _, some _, some _, some _, some _, some _, none, none]) ⟨rfl, rfl, rfl, rfl, rfl, rfl, trivial⟩ ?_
                            first
                              | (have e : (tnL bf qq i).length + 1 = (tnL bf qq (i + 1)).length := by rw [tnL_s, if_pos c101, List.length_append]; rfl
                                 rw [e]
                                 first
                                   | exact ihq (i + 1) _ _ (by omega) (fun e => absurd e (by omega)) hst9 hfr9 e5 hM (by omega)
                                   | exact ihq (i + 1) _ _ (by omega) e2 (fun e => absurd e c110) e4 e5 hM (by omega))
                              | (have e : (tnL bf qq i).length = (tnL bf qq (i + 1)).length := by rw [tnL_s, if_neg (by omega), List.append_nil]
                                 rw [e]
                                 exact ihq (i + 1) _ _ (by omega) e2 (fun q => by rw [tnL_s, if_neg (by omega), List.append_nil]; exact e3 q) e4 e5 hM (by omega))
                          · have hr1 : ρ = 1 := c110
                            have hlen1 : (tnL bf qq (i + 1)).length = (tnL bf qq i).length + 1 := by rw [tnL_s, if_pos c101, List.length_append]; rfl
                            have hmono := tnL_mono (bf := bf) (q := qq) (show i + 1 ≤ len + 1 - qq by omega)
                            have hT30 := (b2 (by omega)).2
                            refine V_aload_n (pc' := 114) hX dX8_text_113 rfl rfl ?_
                            refine V_get (pc' := 117) hX dX8_text_114 hM.1 rfl inX8 4 (by decide) wF_X8_17 rfl rfl ?_
                            refine V_bipush (pc' := 119) (v := nI 30) hX dX8_text_117 (by decide) rfl ?_
                            refine V_iload_n (pc' := 120) hX dX8_text_119 rfl rfl ?_
                            refine V_imulN (pc' := 121) hX dX8_text_120 rfl ?_
                            refine V_iload_n (pc' := 122) hX dX8_text_121 rfl rfl ?_
                            refine V_iaddN (pc' := 123) hX dX8_text_122 rfl ?_
                            refine V_bipush (pc' := 125) (v := nI 8) hX dX8_text_123 (by decide) rfl ?_
                            refine V_aload_n (pc' := 126) hX dX8_text_125 rfl rfl ?_
                            refine V_iload (pc' := 128) hX dX8_text_126 rfl rfl ?_
                            refine V_iload_n (pc' := 129) hX dX8_text_128 rfl rfl ?_
                            refine V_callV (nA := 2) (pc' := 132) (k' := 0) (n' := 0) hX dX8_text_129 (c_Md_piece i qq hq2 (by omega) hM) hM.1 rfl wM_X8_124 wI_X8_piece wL_X8_piece wN_X8 wC_X8_piece rfl hy_X8_piece rfl (Nat.le_of_ble_eq_true rfl) (by decide) (by omega) rfl rfl (by omega) rfl (by omega) rfl ?_
                            rintro _ z h3 ⟨rfl, rfl, rfl⟩
                            refine V.stk (st' := [_, _, _, _]) rfl ?_
                            refine V_imulN (pc' := 133) hX dX8_text_132 rfl ?_
                            refine V_iload (pc' := 135) hX dX8_text_133 rfl rfl ?_
                            refine V_iaddN (pc' := 136) hX dX8_text_135 rfl ?_
                            refine V_iastN (pc' := 137) hX dX8_text_136 hM.2.2.2.1 (by omega) (by omega) rfl ?_
                            refine V.gen (fun h4 eh4 => ?_)
                            have f9 := fr.of_up eh4
                            have hM := hM.u3 (up_at eh4) f9
                            have e5 := e5.tr (f9.mono (lo' := y) (hi' := y + 19) (by omega) (by omega))
                            have hfr9 : ∀ e, e < 30 * r ∨ 30 * r + 30 ≤ e → va_up st3 (30 * r + (tnL bf qq i).length) (8 * pcN bf qq i + cnL bf qq i i) e = st e := fun e he => by rw [vu_ne _ _ (by omega)]; exact e4 e he
                            have hst9 : ρ = 1 → ∀ j, j < (tnL bf qq (i + 1)).length → va_up st3 (30 * r + (tnL bf qq i).length) (8 * pcN bf qq i + cnL bf qq i i) (30 * r + j) = (tnL bf qq (i + 1)).getD j 0 := fun q j hj => by
                              rw [hlen1] at hj
                              rw [tnL_s, if_pos c101]
                              by_cases e : j = (tnL bf qq i).length
                              · rw [e, vu_at, getD_app2]
                              · rw [vu_ne _ _ (by omega), getD_app1 (by omega)]; exact e3 q j (by omega)
                            refine V_iincN (pc' := 140) (j := 1) (lv' := [_, _, _, _, _, _, _, _]) hX dX8_text_137 rfl rfl rfl rfl ?_
                            refine V_iincN (pc' := 143) (j := 1) (lv' := [_, _, _, _, _, _, _, _]) hX dX8_text_140 rfl rfl rfl rfl ?_
                            refine V_goto (pc' := 40) hX dX8_text_143 rfl ?_
                            refine V.loc2 (lv' := [some _, some _, some _, some _, some _, some _, none, none]) ⟨rfl, rfl, rfl, rfl, rfl, rfl, trivial⟩ ?_
                            first
                              | (have e : (tnL bf qq i).length + 1 = (tnL bf qq (i + 1)).length := by rw [tnL_s, if_pos c101, List.length_append]; rfl
                                 rw [e]
                                 first
                                   | exact ihq (i + 1) _ _ (by omega) (fun e => absurd e (by omega)) hst9 hfr9 e5 hM (by omega)
                                   | exact ihq (i + 1) _ _ (by omega) e2 (fun e => absurd e c110) e4 e5 hM (by omega))
                              | (have e : (tnL bf qq i).length = (tnL bf qq (i + 1)).length := by rw [tnL_s, if_neg (by omega), List.append_nil]
                                 rw [e]
                                 exact ihq (i + 1) _ _ (by omega) e2 (fun q => by rw [tnL_s, if_neg (by omega), List.append_nil]; exact e3 q) e4 e5 hM (by omega))
                        · refine V_goto (pc' := 140) hX dX8_text_104 rfl ?_
                          refine V_iincN (pc' := 143) (j := 1) (lv' := [_, _, _, _, _, _, _, _]) hX dX8_text_140 rfl rfl rfl rfl ?_
                          refine V_goto (pc' := 40) hX dX8_text_143 rfl ?_
                          refine V.loc2 (lv' := [some _, some _, some _, some _, some _, some _, none, none]) ⟨rfl, rfl, rfl, rfl, rfl, rfl, trivial⟩ ?_
                          first
                            | (have e : (tnL bf qq i).length + 1 = (tnL bf qq (i + 1)).length := by rw [tnL_s, if_pos c101, List.length_append]; rfl
                               rw [e]
                               first
                                 | exact ihq (i + 1) _ _ (by omega) (fun e => absurd e (by omega)) hst9 hfr9 e5 hM (by omega)
                                 | exact ihq (i + 1) _ _ (by omega) e2 (fun e => absurd e c110) e4 e5 hM (by omega))
                            | (have e : (tnL bf qq i).length = (tnL bf qq (i + 1)).length := by rw [tnL_s, if_neg (by omega), List.append_nil]
                               rw [e]
                               exact ihq (i + 1) _ _ (by omega) e2 (fun q => by rw [tnL_s, if_neg (by omega), List.append_nil]; exact e3 q) e4 e5 hM (by omega))
                      · refine V_iload (pc' := 66) hX dX8_text_64 rfl rfl ?_
                        refine V_aload_n (pc' := 67) hX dX8_text_66 rfl rfl ?_
                        refine V_iload (pc' := 69) hX dX8_text_67 rfl rfl ?_
                        refine V_iload_n (pc' := 70) hX dX8_text_69 rfl rfl ?_
                        refine V_callV (nA := 2) (pc' := 73) (k' := 0) (n' := 0) hX dX8_text_70 (c_Md_piece j qq hq2 (by omega) hM) hM.1 rfl wM_X8_124 wI_X8_piece wL_X8_piece wN_X8 wC_X8_piece rfl hy_X8_piece rfl (Nat.le_of_ble_eq_true rfl) (by decide) (by omega) rfl rfl (by omega) rfl (by omega) rfl ?_
                        rintro _ z h3 ⟨rfl, rfl, rfl⟩
                        refine V.stk (st' := [_, _]) rfl ?_
                        refine V_aload_n (pc' := 74) hX dX8_text_73 rfl rfl ?_
                        refine V_iload (pc' := 76) hX dX8_text_74 rfl rfl ?_
                        refine V_iload_n (pc' := 77) hX dX8_text_76 rfl rfl ?_
                        refine V_callV (nA := 2) (pc' := 80) (k' := 0) (n' := 0) hX dX8_text_77 (c_Md_piece i qq hq2 (by omega) hM) hM.1 rfl wM_X8_124 wI_X8_piece wL_X8_piece wN_X8 wC_X8_piece rfl hy_X8_piece rfl (Nat.le_of_ble_eq_true rfl) (by decide) (by omega) rfl rfl (by omega) rfl (by omega) rfl ?_
                        rintro _ z h3 ⟨rfl, rfl, rfl⟩
                        refine V.stk (st' := [_, _, _]) rfl ?_
                        refine V_icmp_neN (pt := 87) (pc' := 83) hX dX8_text_80 (by have := pcN_bd hPO hq2 (show j + qq ≤ len by omega); omega) (by have := pcN_bd hPO hq2 (show i + qq ≤ len by omega); omega) rfl rfl (fun c80 => ?_) (fun c80 => ?_)
                        · refine V_iconst (pc' := 88) (v := nI 0) hX dX8_text_87 (by decide) rfl ?_
                          refine V_iaddN (pc' := 89) hX dX8_text_88 rfl ?_
                          refine V_istore (pc' := 91) (lv' := [_, _, _, _, _, _, _, _]) hX dX8_text_89 (Nat.le_of_ble_eq_true rfl) rfl rfl ?_
                          refine V_iincN (pc' := 94) (j := 1) (lv' := [_, _, _, _, _, _, _, _]) hX dX8_text_91 rfl rfl rfl rfl ?_
                          refine V_goto (pc' := 57) hX dX8_text_94 rfl ?_
                          first
                            | (rw [show cnL bf qq i j + 1 = cnL bf qq i (j + 1) by rw [cnL_s, if_pos c80]]; exact ih (j + 1) (by omega) (by omega))
                            | (rw [show cnL bf qq i j + 0 = cnL bf qq i (j + 1) by rw [cnL_s, if_neg c80]]; exact ih (j + 1) (by omega) (by omega))
                        · refine V_iconst (pc' := 84) (v := nI 1) hX dX8_text_83 (by decide) rfl ?_
                          refine V_goto (pc' := 88) hX dX8_text_84 rfl ?_
                          refine V_iaddN (pc' := 89) hX dX8_text_88 rfl ?_
                          refine V_istore (pc' := 91) (lv' := [_, _, _, _, _, _, _, _]) hX dX8_text_89 (Nat.le_of_ble_eq_true rfl) rfl rfl ?_
                          refine V_iincN (pc' := 94) (j := 1) (lv' := [_, _, _, _, _, _, _, _]) hX dX8_text_91 rfl rfl rfl rfl ?_
                          refine V_goto (pc' := 57) hX dX8_text_94 rfl ?_
                          first
                            | (rw [show cnL bf qq i j + 1 = cnL bf qq i (j + 1) by rw [cnL_s, if_pos c80]]; exact ih (j + 1) (by omega) (by omega))
                            | (rw [show cnL bf qq i j + 0 = cnL bf qq i (j + 1) by rw [cnL_s, if_neg c80]]; exact ih (j + 1) (by omega) (by omega))
                  exact lr (i + 1) 0 (by omega) (by omega)
            refine V.loc2 (lv' := [some _, some _, some _, some _, some _, some _, none, none]) ⟨rfl, rfl, rfl, rfl, rfl, rfl, trivial⟩ ?_
            exact lq (len + 2) 0 h2 st2 (by omega) (fun e => b3 (by omega)) (fun e j hj => absurd hj (by simp [tnL])) b5 f0 hM (by omega)
      refine V.loc2 (lv' := [some _, some _, some _, some _, some _, none, none, none]) ⟨rfl, rfl, rfl, rfl, rfl, trivial⟩ ?_
      exact lp 3 0 0 h0 st (by omega) (fun e => absurd rfl e) (fun _ => rfl) (fun e => absurd e (by decide)) (fun e _ => rfl) f0 hM (by omega)
    · refine V_iconst (pc' := 23) (v := (-1)) hX dX8_text_22 (by decide) rfl ?_
      refine V_iret hX hR dX8_text_23 ?_
      exact ⟨rfl, f0, Or.inl ⟨Or.inr (of_decide_eq_false c19), rfl, hM⟩⟩
set_option maxRecDepth 100000 in
set_option maxHeartbeats 4000000 in
theorem c_Md_order {G : Gd} {z : Nat} {h : AH} {y : Nat} {th : Int32} {mk : Nat} {ts : Nat} {fs : Nat} {kd : Nat} {p : Nat} {q : Nat} {len : Nat} {ks : Nat} {fm : Nat} {cm : Nat} {be : Nat} {dz : Nat → Bool} {mn : Nat → Nat} {st : Nat → Nat} {tn : Nat → Nat} {tv : Nat → Nat} {fn : Nat → Nat} {fv : Nat → Nat} {on : Nat → Nat} {tw : Nat → Nat} {bf : Nat → Nat} {g1 : Nat → Nat} {g2 : Nat → Nat} {g3 : Nat → Nat} {sv : Nat → Nat} {fa : Nat → Int32} {fy : Nat → Nat} {bs : Nat → Nat} {cf : Nat → Nat} {av : Nat → Bool} {M L : Nat → List Nat} {W F : Nat → Nat} (hI : mdI mk ts fs kd p q av M L W F dz mn st tn tv fn fv) (hM : mdC G h y th mk ts fs kd p q len ks fm cm be dz mn st tn tv fn fv on tw bf g1 g2 g3 sv fa fy bs cf)  : Ct G yX8_order cX8_order 5 (some .int) 0 0 0 [.ref y] z h (fun r' z' h' => z' = z ∧ fr y (y + 19) h h' ∧ ∃ fs' fn' fv', kO (allM av M mk) fs' fn' fv' ∧ fs' ≤ 1800 ∧ r' = some (.int (nI fs')) ∧ mdC G h' y (nI 0) mk ts (fs') kd p q len ks fm cm be dz mn st tn tv (fn') (fv') on tw bf g1 g2 g3 sv fa fy bs cf) := by
  refine Ct.of (lv := [_, _, _, _, _]) (by decide) (Nat.le_of_ble_eq_true rfl) rfl ?_
  rintro X rfl hX hR hnm
  obtain ⟨⟨hmk, hav, hdz⟩, hS, hT, hK, hL, hmo, hemp⟩ := id hI
  refine V_aload_n (pc' := 1) hX dX8_order_0 rfl rfl ?_
  refine V_iconst (pc' := 2) (v := nI 0) hX dX8_order_1 (by decide) rfl ?_
  refine V_put (pc' := 5) (fs' := [_, _, _, _, _, _, _, _, _, _, _, _, _, _, _, _, _, _, _, _, _, _, _, _, _, _, _, _, _, _]) (ty0 := tyX8) hX dX8_order_2 hM.1 rfl inX8 tyX8_ok nmX8 0 (by decide) wF_X8_75 rfl (tyX8_ok 0 (by decide)) rfl rfl (Nat.le_of_ble_eq_true rfl) rfl rfl ?_
  refine V.gen (fun h0 eh0 => ?_)
  have f0 := fr.of_up eh0
  have hM := hM.u0 (up_at eh0) f0
  have f0 := f0.mono (lo' := y) (hi' := y + 19) (by omega) (by omega)
  refine V_aload_n (pc' := 6) hX dX8_order_5 rfl rfl ?_
  refine V_iconst (pc' := 7) (v := nI 0) hX dX8_order_6 (by decide) rfl ?_
  refine V_put (pc' := 10) (fs' := [_, _, _, _, _, _, _, _, _, _, _, _, _, _, _, _, _, _, _, _, _, _, _, _, _, _, _, _, _, _]) (ty0 := tyX8) hX dX8_order_7 hM.1 rfl inX8 tyX8_ok nmX8 8 (by decide) wF_X8_103 rfl (tyX8_ok 8 (by decide)) rfl rfl (Nat.le_of_ble_eq_true rfl) rfl rfl ?_
  refine V.gen (fun h1 eh1 => ?_)
  have fh1 := fr.of_up eh1
  have hM := hM.u0 (up_at eh1) fh1
  have f0 := f0.tr (fh1.mono (lo' := y) (hi' := y + 19) (by omega) (by omega))
  refine V_iconst (pc' := 11) (v := nI 0) hX dX8_order_10 (by decide) rfl ?_
  refine V_istore_n (pc' := 12) (lv' := [_, _, _, _, _]) hX dX8_order_11 (Nat.le_of_ble_eq_true rfl) rfl rfl ?_
  have lp : ∀ (μ i : Nat) (h2 : AH) (fs2 : Nat) (fn2 fv2 : Nat → Nat), i ≤ mk → kO (allM av M i) fs2 fn2 fv2 → fs2 ≤ 30 * i → fr y (y + 19) h h2 → mdC X.G h2 y (nI 0) mk ts (fs2) kd p q len ks fm cm be dz mn st tn tv (fn2) (fv2) on tw bf g1 g2 g3 sv fa fy bs cf → mk - i < μ → V X 0 0 z h2 12 [some (.ref y), some (.int (nI i)), none, none, none] [] := by
    intro μ
    induction μ with
    | zero => intros; omega
    | succ μ ih =>
      intro i h2 fs2 fn2 fv2 b1 b2 b3 f0 hM b5
      refine V_iload_n (pc' := 13) hX dX8_order_12 rfl rfl ?_
      refine V_aload_n (pc' := 14) hX dX8_order_13 rfl rfl ?_
      refine V_get (pc' := 17) hX dX8_order_14 hM.1 rfl inX8 1 (by decide) wF_X8_78 rfl rfl ?_
      refine V_icmp_geN (pt := 143) (pc' := 20) hX dX8_order_17 (by omega) (by omega) rfl rfl (fun c17 => ?_) (fun c17 => ?_)
      · refine V_aload_n (pc' := 144) hX dX8_order_143 rfl rfl ?_
        refine V_get (pc' := 147) hX dX8_order_144 hM.1 rfl inX8 8 (by decide) wF_X8_103 rfl rfl ?_
        refine V_iret hX hR dX8_order_147 ?_
        have ei : i = mk := by omega
        subst ei
        exact ⟨rfl, f0, fs2, fn2, fv2, b2, by omega, rfl, hM⟩
      · refine V_aload_n (pc' := 21) hX dX8_order_20 rfl rfl ?_
        refine V_get (pc' := 24) hX dX8_order_21 hM.1 rfl inX8 2 (by decide) wF_X8_9 rfl rfl ?_
        refine V_iload_n (pc' := 25) hX dX8_order_24 rfl rfl ?_
        refine V_zaldN (pc' := 26) (v := bI (dz i)) hX dX8_order_25 hM.2.1 (by omega) (by omega) rfl rfl ?_
        refine V_if_eqB (pt := 32) (pc' := 29) hX dX8_order_26 rfl rfl (fun c26 => ?_) (fun c26 => ?_)
        · have hai : av i = true := by
            have := hdz i (by omega)
            rw [c26, decide_eq_true (show i < mk by omega)] at this
            cases hx : av i with
            | true => rfl
            | false => rw [hx] at this; cases this
          obtain ⟨s1, s2, s3, s4, s5⟩ := hS i (by omega)
          have ihO := ih
          refine V_iconst (pc' := 33) (v := nI 0) hX dX8_order_32 (by decide) rfl ?_
          refine V_istore_n (pc' := 34) (lv' := [_, _, _, _, _]) hX dX8_order_33 (Nat.le_of_ble_eq_true rfl) rfl rfl ?_
          have lq : ∀ (ν j : Nat) (h3 : AH) (fs3 : Nat) (fn3 fv3 : Nat → Nat), j ≤ (M i).length → kO (allM av M i ++ (M i).take j) fs3 fn3 fv3 → fs3 ≤ 30 * i + j → fr y (y + 19) h h3 → mdC X.G h3 y (nI 0) mk ts (fs3) kd p q len ks fm cm be dz mn st tn tv (fn3) (fv3) on tw bf g1 g2 g3 sv fa fy bs cf → (M i).length - j < ν → V X 0 0 z h3 34 [some (.ref y), some (.int (nI i)), some (.int (nI j)), none, none] [] := by
            intro μ
            induction μ with
            | zero => intros; omega
            | succ μ ih =>
              intro j h3 fs3 fn3 fv3 e1 e2 e3 e5 hM e6
              obtain ⟨o1, o2, o3⟩ := id e2
              refine V_iload_n (pc' := 35) hX dX8_order_34 rfl rfl ?_
              refine V_aload_n (pc' := 36) hX dX8_order_35 rfl rfl ?_
              refine V_get (pc' := 39) hX dX8_order_36 hM.1 rfl inX8 3 (by decide) wF_X8_13 rfl rfl ?_
              refine V_iload_n (pc' := 40) hX dX8_order_39 rfl rfl ?_
              refine V_ialdN (pc' := 41) (v := nI (M i).length) hX dX8_order_40 hM.2.2.1 (by omega) (by omega) (by rw [s1]) rfl ?_
              refine V_icmp_geN (pt := 137) (pc' := 44) hX dX8_order_41 (by omega) (by omega) rfl rfl (fun c41 => ?_) (fun c41 => ?_)
              · refine V_iincN (pc' := 140) (j := 1) (lv' := [_, _, _, _, _]) hX dX8_order_137 rfl rfl rfl rfl ?_
                refine V_goto (pc' := 12) hX dX8_order_140 rfl ?_
                refine V.loc2 (lv' := [some _, some _, none, none, none]) ⟨rfl, rfl, trivial⟩ ?_
                first
                  | exact ihO (i + 1) _ _ _ _ (by omega) (by rw [show allM av M (i + 1) = allM av M i ++ (if av i = true then M i else []) from rfl, if_pos hai]; rw [show j = (M i).length by omega, List.take_length] at e2; exact e2) (by omega) e5 hM (by omega)
                  | exact ih (i + 1) _ _ _ _ (by omega) (by rw [show allM av M (i + 1) = allM av M i ++ (if av i = true then M i else []) from rfl, if_neg (by rw [hai]; decide), List.append_nil]; exact b2) (by omega) f0 hM (by omega)
              · refine V_aload_n (pc' := 45) hX dX8_order_44 rfl rfl ?_
                refine V_get (pc' := 48) hX dX8_order_45 hM.1 rfl inX8 4 (by decide) wF_X8_17 rfl rfl ?_
                refine V_bipush (pc' := 50) (v := nI 30) hX dX8_order_48 (by decide) rfl ?_
                refine V_iload_n (pc' := 51) hX dX8_order_50 rfl rfl ?_
                refine V_imulN (pc' := 52) hX dX8_order_51 rfl ?_
                refine V_iload_n (pc' := 53) hX dX8_order_52 rfl rfl ?_
                refine V_iaddN (pc' := 54) hX dX8_order_53 rfl ?_
                refine V_ialdN (pc' := 55) (v := nI ((M i).getD j 0)) hX dX8_order_54 hM.2.2.2.1 (by omega) (by omega) (by rw [s3 j (by omega)]) rfl ?_
                have ihq := ih
                have hvM := s5 _ (getD_mem (L := M i) (j := j) (by omega))
                refine V_istore_n (pc' := 56) (lv' := [_, _, _, _, _]) hX dX8_order_55 (Nat.le_of_ble_eq_true rfl) rfl rfl ?_
                refine V_iconst (pc' := 57) (v := nI 0) hX dX8_order_56 (by decide) rfl ?_
                refine V_istore (pc' := 59) (lv' := [_, _, _, _, _]) hX dX8_order_57 (Nat.le_of_ble_eq_true rfl) rfl rfl ?_
                have lr : ∀ (κ k : Nat), k ≤ fs3 → (∀ t, t < k → fn3 t ≠ ((M i).getD j 0)) → fs3 - k < κ → V X 0 0 z h3 59 [some (.ref y), some (.int (nI i)), some (.int (nI j)), some (.int (nI ((M i).getD j 0))), some (.int (nI k))] [] := by
                  intro μ
                  induction μ with
                  | zero => intros; omega
                  | succ μ ih =>
                    intro k d1 d2 d3
                    refine V_iload (pc' := 61) hX dX8_order_59 rfl rfl ?_
                    refine V_aload_n (pc' := 62) hX dX8_order_61 rfl rfl ?_
                    refine V_get (pc' := 65) hX dX8_order_62 hM.1 rfl inX8 8 (by decide) wF_X8_103 rfl rfl ?_
                    refine V_icmp_geN (pt := 85) (pc' := 68) hX dX8_order_65 (by omega) (by omega) rfl rfl (fun c65 => ?_) (fun c65 => ?_)
                    · refine V_iload (pc' := 87) hX dX8_order_85 rfl rfl ?_
                      refine V_aload_n (pc' := 88) hX dX8_order_87 rfl rfl ?_
                      refine V_get (pc' := 91) hX dX8_order_88 hM.1 rfl inX8 8 (by decide) wF_X8_103 rfl rfl ?_
                      refine V_icmp_neN (pt := 120) (pc' := 94) hX dX8_order_91 (by omega) (by omega) rfl rfl (fun c91 => ?_) (fun c91 => ?_)
                      · exfalso; omega
                      · have ek : k = fs3 := c91
                        subst ek
                        refine V_aload_n (pc' := 95) hX dX8_order_94 rfl rfl ?_
                        refine V_get (pc' := 98) hX dX8_order_95 hM.1 rfl inX8 9 (by decide) wF_X8_26 rfl rfl ?_
                        refine V_iload (pc' := 100) hX dX8_order_98 rfl rfl ?_
                        refine V_iload_n (pc' := 101) hX dX8_order_100 rfl rfl ?_
                        refine V_iastN (pc' := 102) hX dX8_order_101 hM.2.2.2.2.2.2.1 (by omega) (by omega) rfl ?_
                        refine V.gen (fun h4 eh4 => ?_)
                        have f9 := fr.of_up eh4
                        have hM := hM.u6 (up_at eh4) f9
                        have e5 := e5.tr (f9.mono (lo' := y) (hi' := y + 19) (by omega) (by omega))
                        refine V_aload_n (pc' := 103) hX dX8_order_102 rfl rfl ?_
                        refine V_get (pc' := 106) hX dX8_order_103 hM.1 rfl inX8 10 (by decide) wF_X8_29 rfl rfl ?_
                        refine V_iload (pc' := 108) hX dX8_order_106 rfl rfl ?_
                        refine V_iconst (pc' := 109) (v := nI 0) hX dX8_order_108 (by decide) rfl ?_
                        refine V_iastN (pc' := 110) hX dX8_order_109 hM.2.2.2.2.2.2.2.1 (by omega) (by omega) rfl ?_
                        refine V.gen (fun h5 eh5 => ?_)
                        have f9 := fr.of_up eh5
                        have hM := hM.u7 (up_at eh5) f9
                        have e5 := e5.tr (f9.mono (lo' := y) (hi' := y + 19) (by omega) (by omega))
                        refine V_aload_n (pc' := 111) hX dX8_order_110 rfl rfl ?_
                        refine V_dup (pc' := 112) hX dX8_order_111 rfl rfl ?_
                        refine V_get (pc' := 115) hX dX8_order_112 hM.1 rfl inX8 8 (by decide) wF_X8_103 rfl rfl ?_
                        refine V_iconst (pc' := 116) (v := nI 1) hX dX8_order_115 (by decide) rfl ?_
                        refine V_iaddN (pc' := 117) hX dX8_order_116 rfl ?_
                        refine V_put (pc' := 120) (fs' := [_, _, _, _, _, _, _, _, _, _, _, _, _, _, _, _, _, _, _, _, _, _, _, _, _, _, _, _, _, _]) (ty0 := tyX8) hX dX8_order_117 hM.1 rfl inX8 tyX8_ok nmX8 8 (by decide) wF_X8_103 rfl (tyX8_ok 8 (by decide)) rfl rfl (Nat.le_of_ble_eq_true rfl) rfl rfl ?_
                        refine V.gen (fun h6 eh6 => ?_)
                        have f9 := fr.of_up eh6
                        have hM := hM.u0 (up_at eh6) f9
                        have e5 := e5.tr (f9.mono (lo' := y) (hi' := y + 19) (by omega) (by omega))
                        refine V_aload_n (pc' := 121) hX dX8_order_120 rfl rfl ?_
                        refine V_get (pc' := 124) hX dX8_order_121 hM.1 rfl inX8 10 (by decide) wF_X8_29 rfl rfl ?_
                        refine V_iload (pc' := 126) hX dX8_order_124 rfl rfl ?_
                        refine V_dup2_11 (pc' := 127) hX dX8_order_126 rfl rfl rfl ?_
                        refine V_ialdN (pc' := 128) (v := nI 0) hX dX8_order_127 hM.2.2.2.2.2.2.2.1 (by omega) (by omega) (by rw [vu_at]) rfl ?_
                        refine V_iconst (pc' := 129) (v := nI 1) hX dX8_order_128 (by decide) rfl ?_
                        refine V_iaddN (pc' := 130) hX dX8_order_129 rfl ?_
                        refine V_iastN (pc' := 131) hX dX8_order_130 hM.2.2.2.2.2.2.2.1 (by omega) (by omega) rfl ?_
                        refine V.gen (fun h7 eh7 => ?_)
                        have f9 := fr.of_up eh7
                        have hM := hM.u7 (up_at eh7) f9
                        have e5 := e5.tr (f9.mono (lo' := y) (hi' := y + 19) (by omega) (by omega))
                        have hk9 := e2.new hvM d2
                        refine V_iincN (pc' := 134) (j := 1) (lv' := [_, _, _, _, _]) hX dX8_order_131 rfl rfl rfl rfl ?_
                        refine V_goto (pc' := 34) hX dX8_order_134 rfl ?_
                        refine V.loc2 (lv' := [some _, some _, some _, none, none]) ⟨rfl, rfl, rfl, trivial⟩ ?_
                        first
                          | exact ihq (j + 1) _ _ _ _ (by omega) (by rw [take_s (by omega), ← List.append_assoc]; exact hk9) (by omega) e5 hM (by omega)
                    · refine V_aload_n (pc' := 69) hX dX8_order_68 rfl rfl ?_
                      refine V_get (pc' := 72) hX dX8_order_69 hM.1 rfl inX8 9 (by decide) wF_X8_26 rfl rfl ?_
                      refine V_iload (pc' := 74) hX dX8_order_72 rfl rfl ?_
                      refine V_ialdN (pc' := 75) hX dX8_order_74 hM.2.2.2.2.2.2.1 (by omega) (by omega) rfl rfl ?_
                      refine V_iload_n (pc' := 76) hX dX8_order_75 rfl rfl ?_
                      refine V_icmp_eqN (pt := 85) (pc' := 79) hX dX8_order_76 (by have := o1 k (by omega); omega) (by omega) rfl rfl (fun c76 => ?_) (fun c76 => ?_)
                      · refine V_iload (pc' := 87) hX dX8_order_85 rfl rfl ?_
                        refine V_aload_n (pc' := 88) hX dX8_order_87 rfl rfl ?_
                        refine V_get (pc' := 91) hX dX8_order_88 hM.1 rfl inX8 8 (by decide) wF_X8_103 rfl rfl ?_
                        refine V_icmp_neN (pt := 120) (pc' := 94) hX dX8_order_91 (by omega) (by omega) rfl rfl (fun c91 => ?_) (fun c91 => ?_)
                        · refine V_aload_n (pc' := 121) hX dX8_order_120 rfl rfl ?_
                          refine V_get (pc' := 124) hX dX8_order_121 hM.1 rfl inX8 10 (by decide) wF_X8_29 rfl rfl ?_
                          refine V_iload (pc' := 126) hX dX8_order_124 rfl rfl ?_
                          refine V_dup2_11 (pc' := 127) hX dX8_order_126 rfl rfl rfl ?_
                          refine V_ialdN (pc' := 128) (v := nI (fv3 k)) hX dX8_order_127 hM.2.2.2.2.2.2.2.1 (by omega) (by omega) rfl rfl ?_
                          refine V_iconst (pc' := 129) (v := nI 1) hX dX8_order_128 (by decide) rfl ?_
                          refine V_iaddN (pc' := 130) hX dX8_order_129 rfl ?_
                          refine V_iastN (pc' := 131) hX dX8_order_130 hM.2.2.2.2.2.2.2.1 (by omega) (by omega) rfl ?_
                          refine V.gen (fun h7 eh7 => ?_)
                          have f9 := fr.of_up eh7
                          have hM := hM.u7 (up_at eh7) f9
                          have e5 := e5.tr (f9.mono (lo' := y) (hi' := y + 19) (by omega) (by omega))
                          have hk9 := e2.old (show k < fs3 by omega) c76
                          refine V_iincN (pc' := 134) (j := 1) (lv' := [_, _, _, _, _]) hX dX8_order_131 rfl rfl rfl rfl ?_
                          refine V_goto (pc' := 34) hX dX8_order_134 rfl ?_
                          refine V.loc2 (lv' := [some _, some _, some _, none, none]) ⟨rfl, rfl, rfl, trivial⟩ ?_
                          first
                            | exact ihq (j + 1) _ _ _ _ (by omega) (by rw [take_s (by omega), ← List.append_assoc]; exact hk9) (by omega) e5 hM (by omega)
                        · exfalso; omega
                      · refine V_iincN (pc' := 82) (j := 1) (lv' := [_, _, _, _, _]) hX dX8_order_79 rfl rfl rfl rfl ?_
                        refine V_goto (pc' := 59) hX dX8_order_82 rfl ?_
                        exact ih (k + 1) (by omega) (fun t ht => by
                          by_cases e : t = k
                          · rw [e]; exact c76
                          · exact d2 t (by omega)) (by omega)
                exact lr (fs3 + 1) 0 (by omega) (fun t ht => by omega) (by omega)
          refine V.loc2 (lv' := [some _, some _, some _, none, none]) ⟨rfl, rfl, rfl, trivial⟩ ?_
          exact lq ((M i).length + 1) 0 h2 fs2 fn2 fv2 (by omega) (by rw [List.take_zero, List.append_nil]; exact b2) (by omega) f0 hM (by omega)
        · have hai : av i = false := by
            have := hdz i (by omega)
            rw [c26, decide_eq_true (show i < mk by omega)] at this
            cases hx : av i with
            | false => rfl
            | true => rw [hx] at this; cases this
          refine V_goto (pc' := 137) hX dX8_order_29 rfl ?_
          refine V_iincN (pc' := 140) (j := 1) (lv' := [_, _, _, _, _]) hX dX8_order_137 rfl rfl rfl rfl ?_
          refine V_goto (pc' := 12) hX dX8_order_140 rfl ?_
          refine V.loc2 (lv' := [some _, some _, none, none, none]) ⟨rfl, rfl, trivial⟩ ?_
          first
            | exact ihO (i + 1) _ _ _ _ (by omega) (by rw [show allM av M (i + 1) = allM av M i ++ (if av i = true then M i else []) from rfl, if_pos hai]; rw [show j = (M i).length by omega, List.take_length] at e2; exact e2) (by omega) e5 hM (by omega)
            | exact ih (i + 1) _ _ _ _ (by omega) (by rw [show allM av M (i + 1) = allM av M i ++ (if av i = true then M i else []) from rfl, if_neg (by rw [hai]; decide), List.append_nil]; exact b2) (by omega) f0 hM (by omega)
  refine V.loc2 (lv' := [some _, some _, none, none, none]) ⟨rfl, rfl, trivial⟩ ?_
  exact lp (mk + 1) 0 h1 0 fn fv (by omega) ⟨fun i hi => by omega, fun i j _ hj => by omega, fun u => (cntO_nil u).symm⟩ (by omega) f0 hM (by omega)
