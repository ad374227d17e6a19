/-! KeptPairs -/
abbrev aJ (G : Gd) (n : Nat) (g : Nat → Nat) : va_E := oJ G n (fun j => lN (g j))
theorem updL_lN (g : Nat → Nat) (i w : Nat) : vp_updL (fun j => lN (g j)) i (lN w) = fun j => lN (va_up g i w j) := by
  funext j
  unfold vp_updL va_up
  by_cases h : j = i <;> simp [h]
theorem cpy_lN (f g : Nat → Nat) (sp dp n : Nat) : va_cpy (fun j => lN (f j)) (fun j => lN (g j)) sp dp n = fun j => lN (va_cpy f g sp dp n j) := by
  funext j
  unfold va_cpy
  by_cases h : dp ≤ j ∧ j < dp + n <;> simp [h]
section VK
variable {X : CX} {cc : ByteArray} {nL : Nat} {own : String} {d mc ms : Nat} {k n z z0 : Nat} {h h0 : AH} {pc pc' : Nat} {lv lv' : List (Option Value)} {st st' : List Value}
theorem V_lastNN (hX : okX X cc nL own d mc ms) {a N i w : Nat} {g : Nat → Nat} (hd : decode cc pc = .ok (.lastore, 1)) (ha : h a = some (aJ X.G N g)) (hi : i < N) (hN : N < 2 ^ 31) (hp : pc + 1 = pc') (kk : V X k n z (hup h a (aJ X.G N (va_up g i w))) pc' lv st) : V X k n z h pc lv (.long (lN w) :: .int (nI i) :: .ref a :: st) := by
  refine V_lastN hX hd ha hi hN hp ?_
  rw [updL_lN]
  exact kk
theorem V_copyJN (hX : okX X cc nL own d mc ms) {a0 a1 n0 n1 idx : Nat} {f g : Nat → Nat} {sp dp m : Nat} (hd : decode cc pc = .ok (.invokestatic idx, 3)) (hw1 : Cond.methodLink own idx arraycopyName ∈ GG) (ha0 : h a0 = some (aJ X.G n0 f)) (ha1 : h a1 = some (aJ X.G n1 g)) (hb0 : n0 < 100000) (hb1 : n1 < 100000) (h4 : sp + m ≤ n0) (h5 : dp + m ≤ n1) (hdd : 1 ≤ d) (hl : lv.length = nL) (hs : (st.map fun v => v.category).sum ≤ 8) (hp : pc + 3 = pc') (kk : V X k n z (hup h a1 (aJ X.G n1 (va_cpy f g sp dp m))) pc' lv st) : V X k n z h pc lv (.int (nI m) :: .int (nI dp) :: .ref a1 :: .int (nI sp) :: .ref a0 :: st) := by
  refine V_copyJ hX hd hw1 ha0 ha1 hb0 hb1 h4 h5 hdd hl hs hp ?_
  rw [cpy_lN]
  exact kk
end VK
def kpAt (G : Gd) (h : AH) (c : Nat) (f1 f2 f3 ab bl : Nat → Nat) (sz : Nat) : Prop := h c = some (oO 0 [.ref (c + 1), .ref (c + 2), .ref (c + 3), .ref (c + 4), .ref (c + 5), .int (nI sz)]) ∧ h (c + 1) = some (aI G 1770 f1) ∧ h (c + 2) = some (aI G 1770 f2) ∧ h (c + 3) = some (aI G 1770 f3) ∧ h (c + 4) = some (aJ G 100 ab) ∧ h (c + 5) = some (aJ G 100 bl)
theorem kpAt.kept {G : Gd} {h h' : AH} {c sz lo hi : Nat} {f1 f2 f3 ab bl : Nat → Nat} (hT : kpAt G h c f1 f2 f3 ab bl sz) (hf : fr lo hi h h') (hd : c + 6 ≤ lo ∨ hi ≤ c) : kpAt G h' c f1 f2 f3 ab bl sz :=
  ⟨(hf _ (by omega)).trans hT.1, (hf _ (by omega)).trans hT.2.1, (hf _ (by omega)).trans hT.2.2.1, (hf _ (by omega)).trans hT.2.2.2.1, (hf _ (by omega)).trans hT.2.2.2.2.1, (hf _ (by omega)).trans hT.2.2.2.2.2⟩
