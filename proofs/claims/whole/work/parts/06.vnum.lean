/-! V over numbers: ints that are Nats (nI), arrays of such -/
abbrev aI (G : Gd) (n : Nat) (g : Nat → Nat) : va_E := oI G n (fun j => nI (g j))
def bI (b : Bool) : Int32 := if b then 1 else 0
theorem bI_t : bI true = 1 := rfl
theorem bI_f : bI false = 0 := rfl
theorem bI_n (b : Bool) : narrow .boolean (.int (bI b)) = .int (bI b) := by cases b <;> rfl
theorem bI_0 {b : Bool} : bI b = 0 ↔ b = false := by cases b <;> decide
theorem bI_n0 {b : Bool} : ¬ bI b = 0 ↔ b = true := by cases b <;> decide
theorem nI_vpin {i N : Nat} (hi : i < N) (hN : N < 2 ^ 31) : vp_in (nI i) N := vp_in_nI hi hN
theorem upd_nI (g : Nat → Nat) (i w : Nat) : upd (fun j => nI (g j)) i (nI w) = fun j => nI (va_up g i w j) := by
  funext j
  unfold upd va_up
  by_cases h : j = i <;> simp [h]
theorem cpy_nI (f g : Nat → Nat) (sp dp n : Nat) : va_cpy (fun j => nI (f j)) (fun j => nI (g j)) sp dp n = fun j => nI (va_cpy f g sp dp n j) := by
  funext j
  unfold va_cpy
  by_cases h : dp ≤ j ∧ j < dp + n <;> simp [h]
section VN
variable {X : CX} {cc : ByteArray} {nL : Nat} {own : String} {d mc ms : Nat} {k n z z0 : Nat} {h h0 : AH} {pc pc' : Nat} {lv lv' : List (Option Value)} {st st' : List Value}
theorem V.eqi {x y : Int32} (e : x = y) (kk : V X k n z h pc lv (.int y :: st)) : V X k n z h pc lv (.int x :: st) := by rw [e]; exact kk
theorem V.eql {x y : Int64} (e : x = y) (kk : V X k n z h pc lv (.long y :: st)) : V X k n z h pc lv (.long x :: st) := by rw [e]; exact kk
theorem V.eqh {h' : AH} (e : h = h') (kk : V X k n z h' pc lv st) : V X k n z h pc lv st := by rw [e]; exact kk
theorem V_ldcN (hX : okX X cc nL own d mc ms) {i : Nat} {v v' : Int32} (hd : decode cc pc = .ok (.ldc i, 2)) (hw : Cond.constant own i v ∈ GG) (hv : v = v') (hp : pc + 2 = pc') (kk : V X k n z h pc' lv (.int v' :: st)) : V X k n z h pc lv st := by
  subst hv
  exact V_ldc hX hd hw hp kk
theorem V_ldcwN (hX : okX X cc nL own d mc ms) {i : Nat} {v v' : Int32} (hd : decode cc pc = .ok (.ldc_w i, 3)) (hw : Cond.constant own i v ∈ GG) (hv : v = v') (hp : pc + 3 = pc') (kk : V X k n z h pc' lv (.int v' :: st)) : V X k n z h pc lv st := by
  subst hv
  exact V_ldcw hX hd hw hp kk
theorem V_ldc2N (hX : okX X cc nL own d mc ms) {i : Nat} {v v' : Int64} (hd : decode cc pc = .ok (.ldc2_w i, 3)) (hw : Cond.constantLong own i v ∈ GG) (hv : v = v') (hp : pc + 3 = pc') (kk : V X k n z h pc' lv (.long v' :: st)) : V X k n z h pc lv st := by
  subst hv
  exact V_ldc2 hX hd hw hp kk
theorem V_iaddN (hX : okX X cc nL own d mc ms) {x y : Nat} (hd : decode cc pc = .ok (.iadd, 1)) (hp : pc + 1 = pc') (kk : V X k n z h pc' lv (.int (nI (x + y)) :: st)) : V X k n z h pc lv (.int (nI y) :: .int (nI x) :: st) :=
  V_iadd hX hd hp (V.eqi (nI_add x y) kk)
theorem V_isubN (hX : okX X cc nL own d mc ms) {x y : Nat} (hd : decode cc pc = .ok (.isub, 1)) (hxy : y ≤ x) (hp : pc + 1 = pc') (kk : V X k n z h pc' lv (.int (nI (x - y)) :: st)) : V X k n z h pc lv (.int (nI y) :: .int (nI x) :: st) :=
  V_isub hX hd hp (V.eqi (pk_sub hxy) kk)
theorem V_imulN (hX : okX X cc nL own d mc ms) {x y : Nat} (hd : decode cc pc = .ok (.imul, 1)) (hp : pc + 1 = pc') (kk : V X k n z h pc' lv (.int (nI (x * y)) :: st)) : V X k n z h pc lv (.int (nI y) :: .int (nI x) :: st) :=
  V_imul hX hd hp (V.eqi (pk_mul x y) kk)
theorem V_i2lN (hX : okX X cc nL own d mc ms) {x : Nat} (hd : decode cc pc = .ok (.i2l, 1)) (hx : x < 2 ^ 31) (hp : pc + 1 = pc') (kk : V X k n z h pc' lv (.long (lN x) :: st)) : V X k n z h pc lv (.int (nI x) :: st) :=
  V_i2l hX hd hp (V.eql (nI_l hx) kk)
theorem V_laddN (hX : okX X cc nL own d mc ms) {x y : Nat} (hd : decode cc pc = .ok (.ladd, 1)) (hp : pc + 1 = pc') (kk : V X k n z h pc' lv (.long (lN (x + y)) :: st)) : V X k n z h pc lv (.long (lN y) :: .long (lN x) :: st) :=
  V_ladd hX hd hp (V.eql (lN_add x y) kk)
theorem V_lsubN (hX : okX X cc nL own d mc ms) {x y : Nat} (hd : decode cc pc = .ok (.lsub, 1)) (hxy : y ≤ x) (hp : pc + 1 = pc') (kk : V X k n z h pc' lv (.long (lN (x - y)) :: st)) : V X k n z h pc lv (.long (lN y) :: .long (lN x) :: st) :=
  V_lsub hX hd hp (V.eql (lN_sub hxy) kk)
theorem V_lmulN (hX : okX X cc nL own d mc ms) {x y : Nat} (hd : decode cc pc = .ok (.lmul, 1)) (hp : pc + 1 = pc') (kk : V X k n z h pc' lv (.long (lN (x * y)) :: st)) : V X k n z h pc lv (.long (lN y) :: .long (lN x) :: st) :=
  V_lmul hX hd hp (V.eql (lN_mul x y) kk)
theorem lN_n0 {y : Nat} (h0 : 0 < y) (hy : y < 2 ^ 63) : ¬ lN y = 0 := fun q => by
  have := (pk_lEQ hy (by decide : 0 < 2 ^ 63)).mp (q.trans (by decide : (0 : Int64) = lN 0))
  omega
theorem V_ldivN (hX : okX X cc nL own d mc ms) {x y : Nat} (hd : decode cc pc = .ok (.ldiv, 1)) (hx : x < 2 ^ 63) (hy0 : 0 < y) (hy : y < 2 ^ 63) (hp : pc + 1 = pc') (kk : V X k n z h pc' lv (.long (lN (x / y)) :: st)) : V X k n z h pc lv (.long (lN y) :: .long (lN x) :: st) :=
  V_ldiv hX hd (lN_n0 hy0 hy) hp (V.eql (pk_lDiv hx hy0 hy) kk)
theorem V_lremN (hX : okX X cc nL own d mc ms) {x y : Nat} (hd : decode cc pc = .ok (.lrem, 1)) (hx : x < 2 ^ 63) (hy0 : 0 < y) (hy : y < 2 ^ 63) (hp : pc + 1 = pc') (kk : V X k n z h pc' lv (.long (lN (x % y)) :: st)) : V X k n z h pc lv (.long (lN y) :: .long (lN x) :: st) :=
  V_lrem hX hd (lN_n0 hy0 hy) hp (V.eql (pk_lRem hx hy0 hy) kk)
theorem V_iincN (hX : okX X cc nL own d mc ms) {i x : Nat} {j : Nat} {w : Int} (hd : decode cc pc = .ok (.iinc i w, 3)) (hw : w = (j : Int)) (hx : lv[i]? = some (some (.int (nI x)))) (hl : lvP lv i (.int (nI (x + j))) = lv') (hp : pc + 3 = pc') (kk : V X k n z h pc' lv' st) : V X k n z h pc lv st := by
  subst hw
  refine V_iinc hX hd hx ?_ hl hp kk
  rw [← nI_add]
  rfl
theorem V_alenN (hX : okX X cc nL own d mc ms) {a N : Nat} {f : Nat → Int32} (hd : decode cc pc = .ok (.arraylength, 1)) (ha : h a = some (oI X.G N f)) (hp : pc + 1 = pc') (kk : V X k n z h pc' lv (.int (nI N) :: st)) : V X k n z h pc lv (.ref a :: st) := V_alen hX 0 rfl hd ha rfl hp kk
theorem V_alenJ (hX : okX X cc nL own d mc ms) {a N : Nat} {f : Nat → Int64} (hd : decode cc pc = .ok (.arraylength, 1)) (ha : h a = some (oJ X.G N f)) (hp : pc + 1 = pc') (kk : V X k n z h pc' lv (.int (nI N) :: st)) : V X k n z h pc lv (.ref a :: st) := V_alen hX 1 rfl hd ha rfl hp kk
theorem V_ialdN (hX : okX X cc nL own d mc ms) {a N i : Nat} {f : Nat → Int32} {v : Int32} (hd : decode cc pc = .ok (.iaload, 1)) (ha : h a = some (oI X.G N f)) (hi : i < N) (hN : N < 2 ^ 31) (hv : f i = v) (hp : pc + 1 = pc') (kk : V X k n z h pc' lv (.int v :: st)) : V X k n z h pc lv (.int (nI i) :: .ref a :: st) := by
  refine V_iald hX hd ha (nI_vpin hi hN) hp ?_
  rw [nI_clamp (by omega), hv]
  exact kk
theorem V_zaldN (hX : okX X cc nL own d mc ms) {a N i : Nat} {f : Nat → Int32} {v : Int32} (hd : decode cc pc = .ok (.baload, 1)) (ha : h a = some (oZ X.G N f)) (hi : i < N) (hN : N < 2 ^ 31) (hv : f i = v) (hp : pc + 1 = pc') (kk : V X k n z h pc' lv (.int v :: st)) : V X k n z h pc lv (.int (nI i) :: .ref a :: st) := by
  refine V_zald hX hd ha (nI_vpin hi hN) hp ?_
  rw [nI_clamp (by omega), hv]
  exact kk
theorem V_laldN (hX : okX X cc nL own d mc ms) {a N i : Nat} {f : Nat → Int64} {v : Int64} (hd : decode cc pc = .ok (.laload, 1)) (ha : h a = some (oJ X.G N f)) (hi : i < N) (hN : N < 2 ^ 31) (hv : f i = v) (hp : pc + 1 = pc') (kk : V X k n z h pc' lv (.long v :: st)) : V X k n z h pc lv (.int (nI i) :: .ref a :: st) := by
  refine V_lald hX hd ha (nI_vpin hi hN) hp ?_
  rw [nI_clamp (by omega), hv]
  exact kk
theorem V_aaldN (hX : okX X cc nL own d mc ms) {a N i : Nat} {f : Nat → Option Nat} {v : Value} (hd : decode cc pc = .ok (.aaload, 1)) (ha : h a = some (oN X.G N f)) (hi : i < N) (hN : N < 2 ^ 31) (hv : va_rf (f i) = v) (hp : pc + 1 = pc') (kk : V X k n z h pc' lv (v :: st)) : V X k n z h pc lv (.int (nI i) :: .ref a :: st) := by
  refine V_aald hX hd ha (nI_vpin hi hN) hp ?_
  rw [nI_clamp (by omega), hv]
  exact kk
theorem V_iastN (hX : okX X cc nL own d mc ms) {a N i w : Nat} {g : Nat → Nat} (hd : decode cc pc = .ok (.iastore, 1)) (ha : h a = some (aI X.G N g)) (hi : i < N) (hN : N < 2 ^ 31) (hp : pc + 1 = pc') (kk : V X k n z (hup h a (aI X.G N (va_up g i w))) pc' lv st) : V X k n z h pc lv (.int (nI w) :: .int (nI i) :: .ref a :: st) := by
  refine V_iast hX hd ha (nI_vpin hi hN) hp ?_
  rw [nI_clamp (by omega), upd_nI]
  exact kk
theorem V_iast2 (hX : okX X cc nL own d mc ms) {a N i : Nat} {w : Int32} {f : Nat → Int32} (hd : decode cc pc = .ok (.iastore, 1)) (ha : h a = some (oI X.G N f)) (hi : i < N) (hN : N < 2 ^ 31) (hp : pc + 1 = pc') (kk : V X k n z (hup h a (oI X.G N (upd f i w))) pc' lv st) : V X k n z h pc lv (.int w :: .int (nI i) :: .ref a :: st) := by
  refine V_iast hX hd ha (nI_vpin hi hN) hp ?_
  rw [nI_clamp (by omega)]
  exact kk
theorem V_zastN (hX : okX X cc nL own d mc ms) {a N i : Nat} {w : Int32} {f : Nat → Int32} (hd : decode cc pc = .ok (.bastore, 1)) (ha : h a = some (oZ X.G N f)) (hi : i < N) (hN : N < 2 ^ 31) (hnv : narrow .boolean (.int w) = .int w) (hp : pc + 1 = pc') (kk : V X k n z (hup h a (oZ X.G N (upd f i w))) pc' lv st) : V X k n z h pc lv (.int w :: .int (nI i) :: .ref a :: st) := by
  refine V_zast hX hd ha (nI_vpin hi hN) hnv hp ?_
  rw [nI_clamp (by omega)]
  exact kk
theorem V_lastN (hX : okX X cc nL own d mc ms) {a N i : Nat} {w : Int64} {f : Nat → Int64} (hd : decode cc pc = .ok (.lastore, 1)) (ha : h a = some (oJ X.G N f)) (hi : i < N) (hN : N < 2 ^ 31) (hp : pc + 1 = pc') (kk : V X k n z (hup h a (oJ X.G N (vp_updL f i w))) pc' lv st) : V X k n z h pc lv (.long w :: .int (nI i) :: .ref a :: st) := by
  refine V_last hX hd ha (nI_vpin hi hN) hp ?_
  rw [nI_clamp (by omega)]
  exact kk
theorem V_copyN (hX : okX X cc nL own d mc ms) {a0 a1 n0 n1 idx : Nat} {f g : Nat → Nat} {sp dp m : Nat} (hd : decode cc pc = .ok (.invokestatic idx, 3)) (hw1 : Cond.methodLink own idx arraycopyName ∈ GG) (ha0 : h a0 = some (aI X.G n0 f)) (ha1 : h a1 = some (aI X.G n1 g)) (hb0 : n0 < 100000) (hb1 : n1 < 100000) (h4 : sp + m ≤ n0) (h5 : dp + m ≤ n1) (hdd : 1 ≤ d) (hl : lv.length = nL) (hs : (st.map fun v => v.category).sum ≤ 8) (hp : pc + 3 = pc') (kk : V X k n z (hup h a1 (aI X.G n1 (va_cpy f g sp dp m))) pc' lv st) : V X k n z h pc lv (.int (nI m) :: .int (nI dp) :: .ref a1 :: .int (nI sp) :: .ref a0 :: st) := by
  refine V_copyI hX hd hw1 ha0 ha1 hb0 hb1 h4 h5 hdd hl hs hp ?_
  rw [cpy_nI]
  exact kk
theorem V_newIN (hX : okX X cc nL own d mc ms) {N : Nat} (hd : decode cc pc = .ok (.newarray .int, 2)) (hsm : N ≤ 100000) (hk : k + 1 ≤ mc) (hn : n + N ≤ ms) (hp : pc + 2 = pc') (kk : V X (k + 1) (n + N) (z + 1) (hup h z (aI X.G N (fun _ => 0))) pc' lv (.ref z :: st)) : V X k n z h pc lv (.int (nI N) :: st) :=
  V_newI hX hd wA_int (nI_pos (by omega)) (nI_clamp (by omega)) hsm hk hn hp kk
theorem V_newJN (hX : okX X cc nL own d mc ms) {N : Nat} (hd : decode cc pc = .ok (.newarray .long, 2)) (hsm : N ≤ 100000) (hk : k + 1 ≤ mc) (hn : n + N ≤ ms) (hp : pc + 2 = pc') (kk : V X (k + 1) (n + N) (z + 1) (hup h z (oJ X.G N (fun _ => 0))) pc' lv (.ref z :: st)) : V X k n z h pc lv (.int (nI N) :: st) :=
  V_newJ hX hd wA_long (nI_pos (by omega)) (nI_clamp (by omega)) hsm hk hn hp kk
theorem V_newZN (hX : okX X cc nL own d mc ms) {N : Nat} (hd : decode cc pc = .ok (.newarray .boolean, 2)) (hsm : N ≤ 100000) (hk : k + 1 ≤ mc) (hn : n + N ≤ ms) (hp : pc + 2 = pc') (kk : V X (k + 1) (n + N) (z + 1) (hup h z (oZ X.G N (fun _ => 0))) pc' lv (.ref z :: st)) : V X k n z h pc lv (.int (nI N) :: st) :=
  V_newZ hX hd wA_boolean (nI_pos (by omega)) (nI_clamp (by omega)) hsm hk hn hp kk
theorem V_newNN (hX : okX X cc nL own d mc ms) {N index : Nat} (hd : decode cc pc = .ok (.anewarray index, 3)) (hw : Cond.classLink own index "PairSieve$NumberSet" ∈ GG) (hsm : N ≤ 100000) (hk : k + 1 ≤ mc) (hn : n + N ≤ ms) (hp : pc + 3 = pc') (kk : V X (k + 1) (n + N) (z + 1) (hup h z (oN X.G N (fun _ => none))) pc' lv (.ref z :: st)) : V X k n z h pc lv (.int (nI N) :: st) :=
  V_newN hX hd hw (nI_pos (by omega)) (nI_clamp (by omega)) hsm hk hn hp kk
theorem V_minN (hX : okX X cc nL own d mc ms) {idx : Nat} {x y : Nat} (hd : decode cc pc = .ok (.invokestatic idx, 3)) (hw1 : Cond.methodLink own idx Lib.Math.min.name ∈ GG) (hx : x < 2 ^ 31) (hy : y < 2 ^ 31) (hdd : 1 ≤ d) (hk : k ≤ mc) (hn : n ≤ ms) (hl : lv.length = nL) (hs : (st.map fun v => v.category).sum ≤ 8) (hp : pc + 3 = pc') (kk : V X k n z h pc' lv (.int (nI (min x y)) :: st)) : V X k n z h pc lv (.int (nI y) :: .int (nI x) :: st) := by
  refine V_min hX hd hw1 hdd hk hn hl hs hp (V.eqi ?_ kk)
  by_cases hxy : y < x
  · rw [if_pos ((nI_ltI hy hx).mpr hxy), Nat.min_eq_right (by omega)]
  · rw [if_neg (fun q => hxy ((nI_ltI hy hx).mp q)), Nat.min_eq_left (by omega)]
theorem V_minLN (hX : okX X cc nL own d mc ms) {idx : Nat} {x y : Nat} (hd : decode cc pc = .ok (.invokestatic idx, 3)) (hw1 : Cond.methodLink own idx Lib.MathLoose.min_long.x ∈ GG) (hx : x < 2 ^ 63) (hy : y < 2 ^ 63) (hdd : 1 ≤ d) (hk : k ≤ mc) (hn : n ≤ ms) (hl : lv.length = nL) (hs : (st.map fun v => v.category).sum ≤ 8) (hp : pc + 3 = pc') (kk : V X k n z h pc' lv (.long (lN (min x y)) :: st)) : V X k n z h pc lv (.long (lN y) :: .long (lN x) :: st) := by
  refine V_minL hX hd hw1 hdd hk hn hl hs hp (V.eql ?_ kk)
  by_cases hxy : y < x
  · rw [if_pos ((pk_lLT hy hx).mpr hxy), Nat.min_eq_right (by omega)]
  · rw [if_neg (fun q => hxy ((pk_lLT hy hx).mp q)), Nat.min_eq_left (by omega)]
/-! an answer that is a reference -/
theorem V_aret {post : Option Value → Nat → AH → Prop} {rt : FieldType} (hX : okX X cc nL own d mc ms) (hR : reX X (some rt) k n z0 h0 post) (hrt : ∃ n, rt = .object n) {v : Value} (hd : decode cc pc = .ok (.areturn, 1)) (hv : v = .null ∨ ∃ a, v = .ref a) (hq : post (some v) z h) : V X k n z h pc lv [v] := by
  intro hA H locs ls x b c
  show W _ _ _ _ _ _ _ _ _ _ _ _ _ _ X.Q _
  rw [hR.2.2.2]
  exact W.aret (v := v) hX.1 hX.2.1 hR.1 (Or.inl hrt) hv (QC.mk hR hA x b hq) (by rw [← hR.2.1]; exact b.2.2) hd hX.2.2.2.2.2.2.2.2
theorem V_icmp_eqN (hX : okX X cc nL own d mc ms) {x y : Nat} {off : Int} {pt : Nat} (hd : decode cc pc = .ok (.if_icmp .eq off, 3)) (hx : x < 2 ^ 31) (hy : y < 2 ^ 31) (ht : (pc : Int) + off = (pt : Int)) (hp : pc + 3 = pc') (kt : x = y → V X k n z h pt lv st) (kf : ¬ (x = y) → V X k n z h pc' lv st) : V X k n z h pc lv (.int (nI y) :: .int (nI x) :: st) :=
  V_icmp_eq hX hd ht hp (fun q => kt ((nI_eq hx hy).mp q)) (fun q => kf (fun q2 => q ((nI_eq hx hy).mpr q2)))
theorem V_icmp_ltN (hX : okX X cc nL own d mc ms) {x y : Nat} {off : Int} {pt : Nat} (hd : decode cc pc = .ok (.if_icmp .lt off, 3)) (hx : x < 2 ^ 31) (hy : y < 2 ^ 31) (ht : (pc : Int) + off = (pt : Int)) (hp : pc + 3 = pc') (kt : x < y → V X k n z h pt lv st) (kf : ¬ (x < y) → V X k n z h pc' lv st) : V X k n z h pc lv (.int (nI y) :: .int (nI x) :: st) :=
  V_icmp_lt hX hd ht hp (fun q => kt ((nI_ltI hx hy).mp q)) (fun q => kf (fun q2 => q ((nI_ltI hx hy).mpr q2)))
theorem V_icmp_geN (hX : okX X cc nL own d mc ms) {x y : Nat} {off : Int} {pt : Nat} (hd : decode cc pc = .ok (.if_icmp .ge off, 3)) (hx : x < 2 ^ 31) (hy : y < 2 ^ 31) (ht : (pc : Int) + off = (pt : Int)) (hp : pc + 3 = pc') (kt : y ≤ x → V X k n z h pt lv st) (kf : ¬ (y ≤ x) → V X k n z h pc' lv st) : V X k n z h pc lv (.int (nI y) :: .int (nI x) :: st) :=
  V_icmp_ge hX hd ht hp (fun q => kt ((nI_leI hy hx).mp q)) (fun q => kf (fun q2 => q ((nI_leI hy hx).mpr q2)))
theorem V_icmp_gtN (hX : okX X cc nL own d mc ms) {x y : Nat} {off : Int} {pt : Nat} (hd : decode cc pc = .ok (.if_icmp .gt off, 3)) (hx : x < 2 ^ 31) (hy : y < 2 ^ 31) (ht : (pc : Int) + off = (pt : Int)) (hp : pc + 3 = pc') (kt : y < x → V X k n z h pt lv st) (kf : ¬ (y < x) → V X k n z h pc' lv st) : V X k n z h pc lv (.int (nI y) :: .int (nI x) :: st) :=
  V_icmp_gt hX hd ht hp (fun q => kt ((nI_ltI hy hx).mp q)) (fun q => kf (fun q2 => q ((nI_ltI hy hx).mpr q2)))
theorem V_icmp_leN (hX : okX X cc nL own d mc ms) {x y : Nat} {off : Int} {pt : Nat} (hd : decode cc pc = .ok (.if_icmp .le off, 3)) (hx : x < 2 ^ 31) (hy : y < 2 ^ 31) (ht : (pc : Int) + off = (pt : Int)) (hp : pc + 3 = pc') (kt : x ≤ y → V X k n z h pt lv st) (kf : ¬ (x ≤ y) → V X k n z h pc' lv st) : V X k n z h pc lv (.int (nI y) :: .int (nI x) :: st) :=
  V_icmp_le hX hd ht hp (fun q => kt ((nI_leI hx hy).mp q)) (fun q => kf (fun q2 => q ((nI_leI hx hy).mpr q2)))
theorem V_icmp_neN (hX : okX X cc nL own d mc ms) {x y : Nat} {off : Int} {pt : Nat} (hd : decode cc pc = .ok (.if_icmp .ne off, 3)) (hx : x < 2 ^ 31) (hy : y < 2 ^ 31) (ht : (pc : Int) + off = (pt : Int)) (hp : pc + 3 = pc') (kt : ¬ x = y → V X k n z h pt lv st) (kf : x = y → V X k n z h pc' lv st) : V X k n z h pc lv (.int (nI y) :: .int (nI x) :: st) :=
  V_icmp_ne hX hd ht hp (fun q => kt (fun q2 => q ((nI_eq hx hy).mpr q2))) (fun q => kf ((nI_eq hx hy).mp q))
theorem V_if_eqN (hX : okX X cc nL own d mc ms) {x : Nat} {off : Int} {pt : Nat} (hd : decode cc pc = .ok (.ifCond .eq off, 3)) (hx : x < 2 ^ 31) (ht : (pc : Int) + off = (pt : Int)) (hp : pc + 3 = pc') (kt : x = 0 → V X k n z h pt lv st) (kf : ¬ (x = 0) → V X k n z h pc' lv st) : V X k n z h pc lv (.int (nI x) :: st) :=
  V_if_eq hX hd ht hp (fun q => kt ((nI_eq hx (by decide : 0 < 2 ^ 31)).mp (by rw [nI_0]; exact q))) (fun q => kf (fun q2 => q (by have := (nI_eq hx (by decide : 0 < 2 ^ 31)).mpr q2; rw [nI_0] at this; exact this)))
theorem V_if_ltN (hX : okX X cc nL own d mc ms) {x : Nat} {off : Int} {pt : Nat} (hd : decode cc pc = .ok (.ifCond .lt off, 3)) (hx : x < 2 ^ 31) (ht : (pc : Int) + off = (pt : Int)) (hp : pc + 3 = pc') (kt : x < 0 → V X k n z h pt lv st) (kf : ¬ (x < 0) → V X k n z h pc' lv st) : V X k n z h pc lv (.int (nI x) :: st) :=
  V_if_lt hX hd ht hp (fun q => kt ((nI_ltI hx (by decide : 0 < 2 ^ 31)).mp (by rw [nI_0]; exact q))) (fun q => kf (fun q2 => q (by have := (nI_ltI hx (by decide : 0 < 2 ^ 31)).mpr q2; rw [nI_0] at this; exact this)))
theorem V_if_geN (hX : okX X cc nL own d mc ms) {x : Nat} {off : Int} {pt : Nat} (hd : decode cc pc = .ok (.ifCond .ge off, 3)) (hx : x < 2 ^ 31) (ht : (pc : Int) + off = (pt : Int)) (hp : pc + 3 = pc') (kt : 0 ≤ x → V X k n z h pt lv st) (kf : ¬ (0 ≤ x) → V X k n z h pc' lv st) : V X k n z h pc lv (.int (nI x) :: st) :=
  V_if_ge hX hd ht hp (fun q => kt ((nI_leI (by decide : 0 < 2 ^ 31) hx).mp (by rw [nI_0]; exact q))) (fun q => kf (fun q2 => q (by have := (nI_leI (by decide : 0 < 2 ^ 31) hx).mpr q2; rw [nI_0] at this; exact this)))
theorem V_if_gtN (hX : okX X cc nL own d mc ms) {x : Nat} {off : Int} {pt : Nat} (hd : decode cc pc = .ok (.ifCond .gt off, 3)) (hx : x < 2 ^ 31) (ht : (pc : Int) + off = (pt : Int)) (hp : pc + 3 = pc') (kt : 0 < x → V X k n z h pt lv st) (kf : ¬ (0 < x) → V X k n z h pc' lv st) : V X k n z h pc lv (.int (nI x) :: st) :=
  V_if_gt hX hd ht hp (fun q => kt ((nI_ltI (by decide : 0 < 2 ^ 31) hx).mp (by rw [nI_0]; exact q))) (fun q => kf (fun q2 => q (by have := (nI_ltI (by decide : 0 < 2 ^ 31) hx).mpr q2; rw [nI_0] at this; exact this)))
theorem V_if_leN (hX : okX X cc nL own d mc ms) {x : Nat} {off : Int} {pt : Nat} (hd : decode cc pc = .ok (.ifCond .le off, 3)) (hx : x < 2 ^ 31) (ht : (pc : Int) + off = (pt : Int)) (hp : pc + 3 = pc') (kt : x ≤ 0 → V X k n z h pt lv st) (kf : ¬ (x ≤ 0) → V X k n z h pc' lv st) : V X k n z h pc lv (.int (nI x) :: st) :=
  V_if_le hX hd ht hp (fun q => kt ((nI_leI hx (by decide : 0 < 2 ^ 31)).mp (by rw [nI_0]; exact q))) (fun q => kf (fun q2 => q (by have := (nI_leI hx (by decide : 0 < 2 ^ 31)).mpr q2; rw [nI_0] at this; exact this)))
theorem V_if_neN (hX : okX X cc nL own d mc ms) {x : Nat} {off : Int} {pt : Nat} (hd : decode cc pc = .ok (.ifCond .ne off, 3)) (hx : x < 2 ^ 31) (ht : (pc : Int) + off = (pt : Int)) (hp : pc + 3 = pc') (kt : ¬ x = 0 → V X k n z h pt lv st) (kf : x = 0 → V X k n z h pc' lv st) : V X k n z h pc lv (.int (nI x) :: st) :=
  V_if_ne hX hd ht hp (fun q => kt (fun q2 => q (by rw [q2]; rfl))) (fun q => kf ((nI_eq hx (by decide : 0 < 2 ^ 31)).mp (by rw [nI_0]; exact q)))
theorem V_if_eqB (hX : okX X cc nL own d mc ms) {b : Bool} {off : Int} {pt : Nat} (hd : decode cc pc = .ok (.ifCond .eq off, 3)) (ht : (pc : Int) + off = (pt : Int)) (hp : pc + 3 = pc') (kt : b = false → V X k n z h pt lv st) (kf : b = true → V X k n z h pc' lv st) : V X k n z h pc lv (.int (bI b) :: st) :=
  V_if_eq hX hd ht hp (fun q => kt (bI_0.mp q)) (fun q => kf (bI_n0.mp q))
theorem V_if_neB (hX : okX X cc nL own d mc ms) {b : Bool} {off : Int} {pt : Nat} (hd : decode cc pc = .ok (.ifCond .ne off, 3)) (ht : (pc : Int) + off = (pt : Int)) (hp : pc + 3 = pc') (kt : b = true → V X k n z h pt lv st) (kf : b = false → V X k n z h pc' lv st) : V X k n z h pc lv (.int (bI b) :: st) :=
  V_if_ne hX hd ht hp (fun q => kt (bI_n0.mp q)) (fun q => kf (bI_0.mp q))
theorem V_lcmp_eqN (hX : okX X cc nL own d mc ms) {x y : Nat} {off : Int} {p1 pt : Nat} (hd : decode cc pc = .ok (.lcmp, 1)) (hp1 : pc + 1 = p1) (hd2 : decode cc p1 = .ok (.ifCond .eq off, 3)) (hx : x < 2 ^ 63) (hy : y < 2 ^ 63) (ht : (p1 : Int) + off = (pt : Int)) (hp : p1 + 3 = pc') (kt : x = y → V X k n z h pt lv st) (kf : ¬ (x = y) → V X k n z h pc' lv st) : V X k n z h pc lv (.long (lN y) :: .long (lN x) :: st) :=
  V_lcmp_eq hX hd hp1 hd2 ht hp (fun q => kt ((pk_lEQ hx hy).mp q)) (fun q => kf (fun q2 => q ((pk_lEQ hx hy).mpr q2)))
theorem V_lcmp_ltN (hX : okX X cc nL own d mc ms) {x y : Nat} {off : Int} {p1 pt : Nat} (hd : decode cc pc = .ok (.lcmp, 1)) (hp1 : pc + 1 = p1) (hd2 : decode cc p1 = .ok (.ifCond .lt off, 3)) (hx : x < 2 ^ 63) (hy : y < 2 ^ 63) (ht : (p1 : Int) + off = (pt : Int)) (hp : p1 + 3 = pc') (kt : x < y → V X k n z h pt lv st) (kf : ¬ (x < y) → V X k n z h pc' lv st) : V X k n z h pc lv (.long (lN y) :: .long (lN x) :: st) :=
  V_lcmp_lt hX hd hp1 hd2 ht hp (fun q => kt ((pk_lLT hx hy).mp q)) (fun q => kf (fun q2 => q ((pk_lLT hx hy).mpr q2)))
theorem V_lcmp_geN (hX : okX X cc nL own d mc ms) {x y : Nat} {off : Int} {p1 pt : Nat} (hd : decode cc pc = .ok (.lcmp, 1)) (hp1 : pc + 1 = p1) (hd2 : decode cc p1 = .ok (.ifCond .ge off, 3)) (hx : x < 2 ^ 63) (hy : y < 2 ^ 63) (ht : (p1 : Int) + off = (pt : Int)) (hp : p1 + 3 = pc') (kt : y ≤ x → V X k n z h pt lv st) (kf : ¬ (y ≤ x) → V X k n z h pc' lv st) : V X k n z h pc lv (.long (lN y) :: .long (lN x) :: st) :=
  V_lcmp_ge hX hd hp1 hd2 ht hp (fun q => kt ((pk_lLE hy hx).mp q)) (fun q => kf (fun q2 => q ((pk_lLE hy hx).mpr q2)))
theorem V_lcmp_gtN (hX : okX X cc nL own d mc ms) {x y : Nat} {off : Int} {p1 pt : Nat} (hd : decode cc pc = .ok (.lcmp, 1)) (hp1 : pc + 1 = p1) (hd2 : decode cc p1 = .ok (.ifCond .gt off, 3)) (hx : x < 2 ^ 63) (hy : y < 2 ^ 63) (ht : (p1 : Int) + off = (pt : Int)) (hp : p1 + 3 = pc') (kt : y < x → V X k n z h pt lv st) (kf : ¬ (y < x) → V X k n z h pc' lv st) : V X k n z h pc lv (.long (lN y) :: .long (lN x) :: st) :=
  V_lcmp_gt hX hd hp1 hd2 ht hp (fun q => kt ((pk_lLT hy hx).mp q)) (fun q => kf (fun q2 => q ((pk_lLT hy hx).mpr q2)))
theorem V_lcmp_leN (hX : okX X cc nL own d mc ms) {x y : Nat} {off : Int} {p1 pt : Nat} (hd : decode cc pc = .ok (.lcmp, 1)) (hp1 : pc + 1 = p1) (hd2 : decode cc p1 = .ok (.ifCond .le off, 3)) (hx : x < 2 ^ 63) (hy : y < 2 ^ 63) (ht : (p1 : Int) + off = (pt : Int)) (hp : p1 + 3 = pc') (kt : x ≤ y → V X k n z h pt lv st) (kf : ¬ (x ≤ y) → V X k n z h pc' lv st) : V X k n z h pc lv (.long (lN y) :: .long (lN x) :: st) :=
  V_lcmp_le hX hd hp1 hd2 ht hp (fun q => kt ((pk_lLE hx hy).mp q)) (fun q => kf (fun q2 => q ((pk_lLE hx hy).mpr q2)))
theorem V_lcmp_neN (hX : okX X cc nL own d mc ms) {x y : Nat} {off : Int} {p1 pt : Nat} (hd : decode cc pc = .ok (.lcmp, 1)) (hp1 : pc + 1 = p1) (hd2 : decode cc p1 = .ok (.ifCond .ne off, 3)) (hx : x < 2 ^ 63) (hy : y < 2 ^ 63) (ht : (p1 : Int) + off = (pt : Int)) (hp : p1 + 3 = pc') (kt : ¬ x = y → V X k n z h pt lv st) (kf : x = y → V X k n z h pc' lv st) : V X k n z h pc lv (.long (lN y) :: .long (lN x) :: st) :=
  V_lcmp_ne hX hd hp1 hd2 ht hp (fun q => kt (fun q2 => q ((pk_lEQ hx hy).mpr q2))) (fun q => kf ((pk_lEQ hx hy).mp q))
end VN
