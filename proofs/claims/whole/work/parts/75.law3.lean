/-! the law's loop -/
theorem V_scl {X : CX} {b L : Nat} {xs : Nat → Int32} {k n z pc pc' : Nat} {h : AH} {lv : List (Option Value)} {st : List Value} {nL d mc ms : Nat} (hb : b < X.s.heap.size) (hA : X.A = (fun q => X.s.heap.size ≤ q)) (hH : X.H = X.s.heap) (hx : va_X b L xs X.s X.s.heap) (hX : okX X cL_law nL RL d mc ms) (hd : decode cL_law pc = .ok (.arraylength, 1)) (hp : pc + 1 = pc') (kk : V X k n z h pc' lv (.int (nI L) :: st)) : V X k n z h pc lv (.ref b :: st) := by
  subst hp
  intro hA' H locs ls x9 b' c
  obtain ⟨cell, h1, h2, h3, h4, h5⟩ := hx
  have hc : H[b]? = some cell := (b'.2.1 b (by rw [hH]; exact hb) (by rw [hA]; exact Nat.not_le.mpr hb)).trans (by rw [hH]; exact h1)
  exact W.alen hX.1 hX.2.1 hc h2 (by rw [h4]; rfl) rfl rfl hd (kk hA' H locs ls x9 b' c)
theorem sub6 {L it : Nat} (hL : L ≤ 3072) (hit : it ≤ 512) (c1 : ¬ (nI L - nI 6 < nI (6 * it))) : 6 * it + 6 ≤ L := by
  rw [i32_lt, Int32.toInt_sub, nI_toInt (by omega), nI_toInt (by omega), nI_toInt (by omega)] at c1
  have e : ((L : Int) - (6 : Nat)).bmod (2 ^ 32) = (L : Int) - 6 := by
    unfold Int.bmod
    have : ((2 ^ 32 : Nat) : Int) = 4294967296 := rfl
    rw [this]
    dsimp only
    split <;> omega
  rw [e] at c1
  omega
theorem law_loop {X : CX} {b L : Nat} {xs : Nat → Int32} {x : Nat} (hX : okX X cL_law 7 RL 60 601024 7293034) (hL : L ≤ 3072) (hb : b < X.s.heap.size) (hA : X.A = (fun q => X.s.heap.size ≤ q)) (hH : X.H = X.s.heap) (hx : va_X b L xs X.s X.s.heap) (hSS : SS X.s) (hfl : X.l.flags = flags0) (fin : ∀ (it z : Nat) (h : AH), V X 601024 7293034 z h 941 [some (.ref b), some (.ref x), some (.ref (x + 23)), some (.ref (x + 42)), some (.int (nI (6 * it))), none, none] []) :
    ∀ (μ it z : Nat) (h : AH), it ≤ 512 → 512 - it < μ → REL X.G h z x → V X (43 + 3 * it) (21458 + 64 * it) z h 23 [some (.ref b), some (.ref x), some (.ref (x + 23)), some (.ref (x + 42)), some (.int (nI (6 * it))), none, none] [] := by
  intro μ
  induction μ with
  | zero => intro it z h _ h1; omega
  | succ μ ih =>
    intro it z h h0 h1 R
    refine V_iload (pc' := 25) hX dL_law_23 rfl rfl ?_
    refine V_aload_n (pc' := 26) hX dL_law_25 rfl rfl ?_
    refine V_scl (pc' := 27) hb hA hH hx hX dL_law_26 rfl ?_
    refine V_bipush (v := nI 6) (pc' := 29) hX dL_law_27 rfl rfl ?_
    refine V_isub (pc' := 30) hX dL_law_29 rfl ?_
    refine V_icmp_gt (pt := 941) (pc' := 33) hX dL_law_30 rfl rfl (fun _ => V.widen (by omega) (by omega) (fin it z h)) (fun c1 => ?_)
    have h6 : 6 * it + 6 ≤ L := sub6 hL h0 c1
    have C1 : CTX X b L xs it x := ⟨hX, hb, hA, hH, hx, hL, h6, hSS, hfl⟩
    refine V_aload_n (pc' := 34) hX dL_law_33 rfl rfl ?_
    refine V_iload (pc' := 36) hX dL_law_34 rfl rfl ?_
    refine V_scr (j := 6 * it) (pc' := 37) C1 (by omega) hX dL_law_36 rfl ?_
    refine V_bipush (v := nI 31) (pc' := 39) hX dL_law_37 rfl rfl ?_
    refine V_iand (pc' := 40) hX dL_law_39 rfl ?_
    have nx : ∀ (z : Nat) (h : AH), REL X.G h z x → V X (43 + 3 * (it + 1)) (21458 + 64 * (it + 1)) z h 935 [some (.ref b), some (.ref x), some (.ref (x + 23)), some (.ref (x + 42)), some (.int (nI (6 * it))), none, none] [] := fun z h R => by
      refine V_iinc (lv' := [some (.ref b), some (.ref x), some (.ref (x + 23)), some (.ref (x + 42)), some (.int (nI (6 * (it + 1)))), none, none]) (v := nI (6 * (it + 1))) (pc' := 938) hX dL_law_935 rfl ?_ rfl rfl ?_
      · show nI (6 * it) + nI 6 = nI (6 * it + 6)
        exact nI_add (6 * it) 6
      · refine V_goto (pc' := 23) hX dL_law_938 rfl ?_
        exact ih (it + 1) z h (by omega) (by omega) R
    generalize xs (6 * it) &&& nI 31 = v9
    by_cases hv : v9.toInt < 0 ∨ 22 < v9.toInt
    · refine V_tableOut (pc' := 935) hX dL_law_40 hv rfl ?_
      exact V.widen (by omega) (by omega) (nx z h R)
    · obtain ⟨c, hc, rfl⟩ : ∃ c : Nat, c ≤ 22 ∧ v9 = nI c := ⟨v9.toInt.toNat, by omega, Int32.toInt_inj.mp (by rw [nI_toInt (by omega)]; omega)⟩
      rcases (show c = 0 ∨ c = 1 ∨ c = 2 ∨ c = 3 ∨ c = 4 ∨ c = 5 ∨ c = 6 ∨ c = 7 ∨ c = 8 ∨ c = 9 ∨ c = 10 ∨ c = 11 ∨ c = 12 ∨ c = 13 ∨ c = 14 ∨ c = 15 ∨ c = 16 ∨ c = 17 ∨ c = 18 ∨ c = 19 ∨ c = 20 ∨ c = 21 ∨ c = 22 by omega) with rfl | rfl | rfl | rfl | rfl | rfl | rfl | rfl | rfl | rfl | rfl | rfl | rfl | rfl | rfl | rfl | rfl | rfl | rfl | rfl | rfl | rfl | rfl
      · exact V_tableIn (pc' := 148) (off := 108) hX dL_law_40 (by decide) (by decide) rfl rfl (law_c0 C1 R nx)
      · exact V_tableIn (pc' := 161) (off := 121) hX dL_law_40 (by decide) (by decide) rfl rfl (law_c1 C1 R nx)
      · exact V_tableIn (pc' := 186) (off := 146) hX dL_law_40 (by decide) (by decide) rfl rfl (law_c2 C1 R nx)
      · exact V_tableIn (pc' := 223) (off := 183) hX dL_law_40 (by decide) (by decide) rfl rfl (law_c3 C1 R nx)
      · exact V_tableIn (pc' := 260) (off := 220) hX dL_law_40 (by decide) (by decide) rfl rfl (law_c4 C1 R nx)
      · exact V_tableIn (pc' := 297) (off := 257) hX dL_law_40 (by decide) (by decide) rfl rfl (law_c5 C1 R nx)
      · exact V_tableIn (pc' := 370) (off := 330) hX dL_law_40 (by decide) (by decide) rfl rfl (law_c6 C1 R nx)
      · exact V_tableIn (pc' := 395) (off := 355) hX dL_law_40 (by decide) (by decide) rfl rfl (law_c7 C1 R nx)
      · exact V_tableIn (pc' := 432) (off := 392) hX dL_law_40 (by decide) (by decide) rfl rfl (law_c8 C1 R nx)
      · exact V_tableIn (pc' := 481) (off := 441) hX dL_law_40 (by decide) (by decide) rfl rfl (law_c9 C1 R nx)
      · exact V_tableIn (pc' := 494) (off := 454) hX dL_law_40 (by decide) (by decide) rfl rfl (law_c10 C1 R nx)
      · exact V_tableIn (pc' := 519) (off := 479) hX dL_law_40 (by decide) (by decide) rfl rfl (law_c11 C1 R nx)
      · exact V_tableIn (pc' := 556) (off := 516) hX dL_law_40 (by decide) (by decide) rfl rfl (law_c12 C1 R nx)
      · exact V_tableIn (pc' := 593) (off := 553) hX dL_law_40 (by decide) (by decide) rfl rfl (law_c13 C1 R nx)
      · exact V_tableIn (pc' := 643) (off := 603) hX dL_law_40 (by decide) (by decide) rfl rfl (law_c14 C1 R nx)
      · exact V_tableIn (pc' := 680) (off := 640) hX dL_law_40 (by decide) (by decide) rfl rfl (law_c15 C1 R nx)
      · exact V_tableIn (pc' := 693) (off := 653) hX dL_law_40 (by decide) (by decide) rfl rfl (law_c16 C1 R nx)
      · exact V_tableIn (pc' := 761) (off := 721) hX dL_law_40 (by decide) (by decide) rfl rfl (law_c17 C1 R nx)
      · exact V_tableIn (pc' := 786) (off := 746) hX dL_law_40 (by decide) (by decide) rfl rfl (law_c18 C1 R nx)
      · exact V_tableIn (pc' := 811) (off := 771) hX dL_law_40 (by decide) (by decide) rfl rfl (law_c19 C1 R nx)
      · exact V_tableIn (pc' := 836) (off := 796) hX dL_law_40 (by decide) (by decide) rfl rfl (law_c20 C1 R nx)
      · exact V_tableIn (pc' := 873) (off := 833) hX dL_law_40 (by decide) (by decide) rfl rfl (law_c21 C1 R nx)
      · exact V_tableIn (pc' := 910) (off := 870) hX dL_law_40 (by decide) (by decide) rfl rfl (law_c22 C1 R nx)
