/-! the law: its rows -/
def CTX (X : CX) (b L : Nat) (xs : Nat → Int32) (it x : Nat) : Prop := okX X cL_law 7 RL 60 601024 7293034 ∧ b < X.s.heap.size ∧ X.A = (fun q => X.s.heap.size ≤ q) ∧ X.H = X.s.heap ∧ va_X b L xs X.s X.s.heap ∧ L ≤ 3072 ∧ 6 * it + 6 ≤ L ∧ SS X.s ∧ X.l.flags = flags0
theorem V_scr {X : CX} {b L : Nat} {xs : Nat → Int32} {it x j k n z pc pc' : Nat} {h : AH} {lv : List (Option Value)} {st : List Value} {nL d mc ms : Nat} (C : CTX X b L xs it x) (hj : j < L) (hX : okX X cL_law nL RL d mc ms) (hd : decode cL_law pc = .ok (.iaload, 1)) (hp : pc + 1 = pc') (kk : V X k n z h pc' lv (.int (xs j) :: st)) : V X k n z h pc lv (.int (nI j) :: .ref b :: st) := by
  subst hp
  intro hA' H locs ls x9 b' c
  obtain ⟨-, hb, hA, hH, ⟨cell, h1, h2, h3, h4, h5⟩, hL, -⟩ := C
  have hc : H[b]? = some cell := (b'.2.1 b (by rw [hH]; exact hb) (by rw [hA]; exact Nat.not_le.mpr hb)).trans (by rw [hH]; exact h1)
  have hn : (nI j).toNatClampNeg = j := nI_clamp (by omega)
  exact W.iald hX.1 hX.2.1 hc h2 h3 (by rw [h4]; exact nI_in hj (by omega)) (by rw [hn]; exact h5 j hj) rfl rfl hd (kk hA' H locs ls x9 b' c)

theorem law_c0 {X : CX} {b L : Nat} {xs : Nat → Int32} {it x : Nat} (C : CTX X b L xs it x) {z : Nat} {h : AH} (R : REL X.G h z x) (nx : ∀ (z : Nat) (h : AH), REL X.G h z x → V X (43 + 3 * (it + 1)) (21458 + 64 * (it + 1)) z h 935 [some (.ref b), some (.ref x), some (.ref (x + 23)), some (.ref (x + 42)), some (.int (nI (6 * it))), none, none] []) : V X (43 + 3 * it) (21458 + 64 * it) z h 148 [some (.ref b), some (.ref x), some (.ref (x + 23)), some (.ref (x + 42)), some (.int (nI (6 * it))), none, none] [] := by
  obtain ⟨mk, sa, L, M, F, W, fn, fv, fs, tn, tv, ts, kd, p, q, bf, len, ta, sp, f1, f2, f3, ks, ff, fg, co, th, fm, cm, be, dz, mn, st, un, uv, gn, gv, on, tw, bm, g1, g2, g3, sv, fa, fy, bs, cf, R⟩ := R
  have hx0 := R.1.1.1
  have hX := C.1
  have hL1 := C.2.2.2.2.2.1
  have hL2 := C.2.2.2.2.2.2.1
  refine V_aload_n (pc' := 149) hX dL_law_148 rfl rfl ?_
  refine V_callV (nA := 0) (pc' := 152) (k' := 43 + 3 * it + 3) (n' := 21458 + 64 * it + 64) (As := []) (rest := []) hX dL_law_149 (sim_record R ) hx0 rfl wM_L_19 wI_X7_record wL_X7_record wN_X7 wC_X7_record rfl hy_X7_record rfl (Nat.le_of_ble_eq_true rfl) (by decide) (by omega) rfl rfl (by omega) rfl (by omega) rfl ?_
  rintro _ z1 h1 ⟨wr, fs1, rfl, he1, hC2⟩
  refine V_aload_n (pc' := 153) hX dL_law_152 rfl rfl ?_
  refine V_callV (nA := 0) (pc' := 156) (k' := 43 + 3 * it + 3) (n' := 21458 + 64 * it + 64) (As := []) (rest := [.int wr]) hX dL_law_153 hC2 he1 rfl wM_L_23 wI_X8_record wL_X8_record wN_X8 wC_X8_record rfl hy_X8_record rfl (Nat.le_of_ble_eq_true rfl) (by decide) (by omega) rfl rfl (by omega) rfl (by omega) rfl ?_
  rintro _ z2 h2 ⟨rfl, -, R2⟩
  refine V_icmp_eq (pt := 935) (pc' := 159) hX dL_law_156 rfl rfl (fun _ => ?_) (fun e => absurd rfl e)
  exact V.widen (by omega) (by omega) (nx z2 h2 R2)
theorem law_c1 {X : CX} {b L : Nat} {xs : Nat → Int32} {it x : Nat} (C : CTX X b L xs it x) {z : Nat} {h : AH} (R : REL X.G h z x) (nx : ∀ (z : Nat) (h : AH), REL X.G h z x → V X (43 + 3 * (it + 1)) (21458 + 64 * (it + 1)) z h 935 [some (.ref b), some (.ref x), some (.ref (x + 23)), some (.ref (x + 42)), some (.int (nI (6 * it))), none, none] []) : V X (43 + 3 * it) (21458 + 64 * it) z h 161 [some (.ref b), some (.ref x), some (.ref (x + 23)), some (.ref (x + 42)), some (.int (nI (6 * it))), none, none] [] := by
  obtain ⟨mk, sa, L, M, F, W, fn, fv, fs, tn, tv, ts, kd, p, q, bf, len, ta, sp, f1, f2, f3, ks, ff, fg, co, th, fm, cm, be, dz, mn, st, un, uv, gn, gv, on, tw, bm, g1, g2, g3, sv, fa, fy, bs, cf, R⟩ := R
  have hx0 := R.1.1.1
  have hX := C.1
  have hL1 := C.2.2.2.2.2.1
  have hL2 := C.2.2.2.2.2.2.1
  refine V_aload_n (pc' := 162) hX dL_law_161 rfl rfl ?_
  refine V_aload_n (pc' := 163) hX dL_law_162 rfl rfl ?_
  refine V_iload (pc' := 165) hX dL_law_163 rfl rfl ?_
  refine V_iconst (v := nI 1) (pc' := 166) hX dL_law_165 rfl rfl ?_
  refine V_iaddN (pc' := 167) hX dL_law_166 rfl ?_
  refine V_scr (j := 6 * it + 1) (pc' := 168) C (by omega) hX dL_law_167 rfl ?_
  refine V_callV (nA := 1) (pc' := 171) (k' := 43 + 3 * it) (n' := 21458 + 64 * it) (As := [.int (xs (6 * it + 1))]) (rest := []) hX dL_law_168 (sim_drop R (xs (6 * it + 1))) hx0 rfl wM_L_24 wI_X7_drop wL_X7_drop wN_X7 wC_X7_drop rfl hy_X7_drop rfl (Nat.le_of_ble_eq_true rfl) (by decide) (by omega) rfl rfl (by omega) rfl (by omega) rfl ?_
  rintro _ z1 h1 ⟨wr, fs1, rfl, he1, hC2⟩
  refine V_aload_n (pc' := 172) hX dL_law_171 rfl rfl ?_
  refine V_aload_n (pc' := 173) hX dL_law_172 rfl rfl ?_
  refine V_iload (pc' := 175) hX dL_law_173 rfl rfl ?_
  refine V_iconst (v := nI 1) (pc' := 176) hX dL_law_175 rfl rfl ?_
  refine V_iaddN (pc' := 177) hX dL_law_176 rfl ?_
  refine V_scr (j := 6 * it + 1) (pc' := 178) C (by omega) hX dL_law_177 rfl ?_
  refine V_callV (nA := 1) (pc' := 181) (k' := 43 + 3 * it) (n' := 21458 + 64 * it) (As := [.int (xs (6 * it + 1))]) (rest := [.int wr]) hX dL_law_178 hC2 he1 rfl wM_L_28 wI_X8_drop wL_X8_drop wN_X8 wC_X8_drop rfl hy_X8_drop rfl (Nat.le_of_ble_eq_true rfl) (by decide) (by omega) rfl rfl (by omega) rfl (by omega) rfl ?_
  rintro _ z2 h2 ⟨rfl, -, R2⟩
  refine V_icmp_eq (pt := 935) (pc' := 184) hX dL_law_181 rfl rfl (fun _ => ?_) (fun e => absurd rfl e)
  exact V.widen (by omega) (by omega) (nx z2 h2 R2)
theorem law_c2 {X : CX} {b L : Nat} {xs : Nat → Int32} {it x : Nat} (C : CTX X b L xs it x) {z : Nat} {h : AH} (R : REL X.G h z x) (nx : ∀ (z : Nat) (h : AH), REL X.G h z x → V X (43 + 3 * (it + 1)) (21458 + 64 * (it + 1)) z h 935 [some (.ref b), some (.ref x), some (.ref (x + 23)), some (.ref (x + 42)), some (.int (nI (6 * it))), none, none] []) : V X (43 + 3 * it) (21458 + 64 * it) z h 186 [some (.ref b), some (.ref x), some (.ref (x + 23)), some (.ref (x + 42)), some (.int (nI (6 * it))), none, none] [] := by
  obtain ⟨mk, sa, L, M, F, W, fn, fv, fs, tn, tv, ts, kd, p, q, bf, len, ta, sp, f1, f2, f3, ks, ff, fg, co, th, fm, cm, be, dz, mn, st, un, uv, gn, gv, on, tw, bm, g1, g2, g3, sv, fa, fy, bs, cf, R⟩ := R
  have hx0 := R.1.1.1
  have hX := C.1
  have hL1 := C.2.2.2.2.2.1
  have hL2 := C.2.2.2.2.2.2.1
  refine V_aload_n (pc' := 187) hX dL_law_186 rfl rfl ?_
  refine V_aload_n (pc' := 188) hX dL_law_187 rfl rfl ?_
  refine V_iload (pc' := 190) hX dL_law_188 rfl rfl ?_
  refine V_iconst (v := nI 1) (pc' := 191) hX dL_law_190 rfl rfl ?_
  refine V_iaddN (pc' := 192) hX dL_law_191 rfl ?_
  refine V_scr (j := 6 * it + 1) (pc' := 193) C (by omega) hX dL_law_192 rfl ?_
  refine V_aload_n (pc' := 194) hX dL_law_193 rfl rfl ?_
  refine V_iload (pc' := 196) hX dL_law_194 rfl rfl ?_
  refine V_iconst (v := nI 2) (pc' := 197) hX dL_law_196 rfl rfl ?_
  refine V_iaddN (pc' := 198) hX dL_law_197 rfl ?_
  refine V_scr (j := 6 * it + 2) (pc' := 199) C (by omega) hX dL_law_198 rfl ?_
  refine V_callV (nA := 2) (pc' := 202) (k' := 43 + 3 * it) (n' := 21458 + 64 * it) (As := [.int (xs (6 * it + 1)), .int (xs (6 * it + 2))]) (rest := []) hX dL_law_199 (sim_put R (xs (6 * it + 1)) (xs (6 * it + 2))) hx0 rfl wM_L_29 wI_X7_put wL_X7_put wN_X7 wC_X7_put rfl hy_X7_put rfl (Nat.le_of_ble_eq_true rfl) (by decide) (by omega) rfl rfl (by omega) rfl (by omega) rfl ?_
  rintro _ z1 h1 ⟨wr, fs1, rfl, he1, hC2⟩
  refine V_aload_n (pc' := 203) hX dL_law_202 rfl rfl ?_
  refine V_aload_n (pc' := 204) hX dL_law_203 rfl rfl ?_
  refine V_iload (pc' := 206) hX dL_law_204 rfl rfl ?_
  refine V_iconst (v := nI 1) (pc' := 207) hX dL_law_206 rfl rfl ?_
  refine V_iaddN (pc' := 208) hX dL_law_207 rfl ?_
  refine V_scr (j := 6 * it + 1) (pc' := 209) C (by omega) hX dL_law_208 rfl ?_
  refine V_aload_n (pc' := 210) hX dL_law_209 rfl rfl ?_
  refine V_iload (pc' := 212) hX dL_law_210 rfl rfl ?_
  refine V_iconst (v := nI 2) (pc' := 213) hX dL_law_212 rfl rfl ?_
  refine V_iaddN (pc' := 214) hX dL_law_213 rfl ?_
  refine V_scr (j := 6 * it + 2) (pc' := 215) C (by omega) hX dL_law_214 rfl ?_
  refine V_callV (nA := 2) (pc' := 218) (k' := 43 + 3 * it) (n' := 21458 + 64 * it) (As := [.int (xs (6 * it + 1)), .int (xs (6 * it + 2))]) (rest := [.int wr]) hX dL_law_215 hC2 he1 rfl wM_L_33 wI_X8_put wL_X8_put wN_X8 wC_X8_put rfl hy_X8_put rfl (Nat.le_of_ble_eq_true rfl) (by decide) (by omega) rfl rfl (by omega) rfl (by omega) rfl ?_
  rintro _ z2 h2 ⟨rfl, -, R2⟩
  refine V_icmp_eq (pt := 935) (pc' := 221) hX dL_law_218 rfl rfl (fun _ => ?_) (fun e => absurd rfl e)
  exact V.widen (by omega) (by omega) (nx z2 h2 R2)
theorem law_c3 {X : CX} {b L : Nat} {xs : Nat → Int32} {it x : Nat} (C : CTX X b L xs it x) {z : Nat} {h : AH} (R : REL X.G h z x) (nx : ∀ (z : Nat) (h : AH), REL X.G h z x → V X (43 + 3 * (it + 1)) (21458 + 64 * (it + 1)) z h 935 [some (.ref b), some (.ref x), some (.ref (x + 23)), some (.ref (x + 42)), some (.int (nI (6 * it))), none, none] []) : V X (43 + 3 * it) (21458 + 64 * it) z h 223 [some (.ref b), some (.ref x), some (.ref (x + 23)), some (.ref (x + 42)), some (.int (nI (6 * it))), none, none] [] := by
  obtain ⟨mk, sa, L, M, F, W, fn, fv, fs, tn, tv, ts, kd, p, q, bf, len, ta, sp, f1, f2, f3, ks, ff, fg, co, th, fm, cm, be, dz, mn, st, un, uv, gn, gv, on, tw, bm, g1, g2, g3, sv, fa, fy, bs, cf, R⟩ := R
  have hx0 := R.1.1.1
  have hX := C.1
  have hL1 := C.2.2.2.2.2.1
  have hL2 := C.2.2.2.2.2.2.1
  refine V_aload_n (pc' := 224) hX dL_law_223 rfl rfl ?_
  refine V_aload_n (pc' := 225) hX dL_law_224 rfl rfl ?_
  refine V_iload (pc' := 227) hX dL_law_225 rfl rfl ?_
  refine V_iconst (v := nI 1) (pc' := 228) hX dL_law_227 rfl rfl ?_
  refine V_iaddN (pc' := 229) hX dL_law_228 rfl ?_
  refine V_scr (j := 6 * it + 1) (pc' := 230) C (by omega) hX dL_law_229 rfl ?_
  refine V_aload_n (pc' := 231) hX dL_law_230 rfl rfl ?_
  refine V_iload (pc' := 233) hX dL_law_231 rfl rfl ?_
  refine V_iconst (v := nI 2) (pc' := 234) hX dL_law_233 rfl rfl ?_
  refine V_iaddN (pc' := 235) hX dL_law_234 rfl ?_
  refine V_scr (j := 6 * it + 2) (pc' := 236) C (by omega) hX dL_law_235 rfl ?_
  refine V_callV (nA := 2) (pc' := 239) (k' := 43 + 3 * it) (n' := 21458 + 64 * it) (As := [.int (xs (6 * it + 1)), .int (xs (6 * it + 2))]) (rest := []) hX dL_law_236 (sim_take R (xs (6 * it + 1)) (xs (6 * it + 2))) hx0 rfl wM_L_34 wI_X7_take wL_X7_take wN_X7 wC_X7_take rfl hy_X7_take rfl (Nat.le_of_ble_eq_true rfl) (by decide) (by omega) rfl rfl (by omega) rfl (by omega) rfl ?_
  rintro _ z1 h1 ⟨wr, fs1, rfl, he1, hC2⟩
  refine V_aload_n (pc' := 240) hX dL_law_239 rfl rfl ?_
  refine V_aload_n (pc' := 241) hX dL_law_240 rfl rfl ?_
  refine V_iload (pc' := 243) hX dL_law_241 rfl rfl ?_
  refine V_iconst (v := nI 1) (pc' := 244) hX dL_law_243 rfl rfl ?_
  refine V_iaddN (pc' := 245) hX dL_law_244 rfl ?_
  refine V_scr (j := 6 * it + 1) (pc' := 246) C (by omega) hX dL_law_245 rfl ?_
  refine V_aload_n (pc' := 247) hX dL_law_246 rfl rfl ?_
  refine V_iload (pc' := 249) hX dL_law_247 rfl rfl ?_
  refine V_iconst (v := nI 2) (pc' := 250) hX dL_law_249 rfl rfl ?_
  refine V_iaddN (pc' := 251) hX dL_law_250 rfl ?_
  refine V_scr (j := 6 * it + 2) (pc' := 252) C (by omega) hX dL_law_251 rfl ?_
  refine V_callV (nA := 2) (pc' := 255) (k' := 43 + 3 * it) (n' := 21458 + 64 * it) (As := [.int (xs (6 * it + 1)), .int (xs (6 * it + 2))]) (rest := [.int wr]) hX dL_law_252 hC2 he1 rfl wM_L_37 wI_X8_take wL_X8_take wN_X8 wC_X8_take rfl hy_X8_take rfl (Nat.le_of_ble_eq_true rfl) (by decide) (by omega) rfl rfl (by omega) rfl (by omega) rfl ?_
  rintro _ z2 h2 ⟨rfl, -, R2⟩
  refine V_icmp_eq (pt := 935) (pc' := 258) hX dL_law_255 rfl rfl (fun _ => ?_) (fun e => absurd rfl e)
  exact V.widen (by omega) (by omega) (nx z2 h2 R2)
theorem law_c4 {X : CX} {b L : Nat} {xs : Nat → Int32} {it x : Nat} (C : CTX X b L xs it x) {z : Nat} {h : AH} (R : REL X.G h z x) (nx : ∀ (z : Nat) (h : AH), REL X.G h z x → V X (43 + 3 * (it + 1)) (21458 + 64 * (it + 1)) z h 935 [some (.ref b), some (.ref x), some (.ref (x + 23)), some (.ref (x + 42)), some (.int (nI (6 * it))), none, none] []) : V X (43 + 3 * it) (21458 + 64 * it) z h 260 [some (.ref b), some (.ref x), some (.ref (x + 23)), some (.ref (x + 42)), some (.int (nI (6 * it))), none, none] [] := by
  obtain ⟨mk, sa, L, M, F, W, fn, fv, fs, tn, tv, ts, kd, p, q, bf, len, ta, sp, f1, f2, f3, ks, ff, fg, co, th, fm, cm, be, dz, mn, st, un, uv, gn, gv, on, tw, bm, g1, g2, g3, sv, fa, fy, bs, cf, R⟩ := R
  have hx0 := R.1.1.1
  have hX := C.1
  have hL1 := C.2.2.2.2.2.1
  have hL2 := C.2.2.2.2.2.2.1
  refine V_aload_n (pc' := 261) hX dL_law_260 rfl rfl ?_
  refine V_aload_n (pc' := 262) hX dL_law_261 rfl rfl ?_
  refine V_iload (pc' := 264) hX dL_law_262 rfl rfl ?_
  refine V_iconst (v := nI 1) (pc' := 265) hX dL_law_264 rfl rfl ?_
  refine V_iaddN (pc' := 266) hX dL_law_265 rfl ?_
  refine V_scr (j := 6 * it + 1) (pc' := 267) C (by omega) hX dL_law_266 rfl ?_
  refine V_aload_n (pc' := 268) hX dL_law_267 rfl rfl ?_
  refine V_iload (pc' := 270) hX dL_law_268 rfl rfl ?_
  refine V_iconst (v := nI 2) (pc' := 271) hX dL_law_270 rfl rfl ?_
  refine V_iaddN (pc' := 272) hX dL_law_271 rfl ?_
  refine V_scr (j := 6 * it + 2) (pc' := 273) C (by omega) hX dL_law_272 rfl ?_
  refine V_callV (nA := 2) (pc' := 276) (k' := 43 + 3 * it) (n' := 21458 + 64 * it) (As := [.int (xs (6 * it + 1)), .int (xs (6 * it + 2))]) (rest := []) hX dL_law_273 (sim_weight R (xs (6 * it + 1)) (xs (6 * it + 2))) hx0 rfl wM_L_38 wI_X7_weight wL_X7_weight wN_X7 wC_X7_weight rfl hy_X7_weight rfl (Nat.le_of_ble_eq_true rfl) (by decide) (by omega) rfl rfl (by omega) rfl (by omega) rfl ?_
  rintro _ z1 h1 ⟨wr, fs1, rfl, he1, hC2⟩
  refine V_aload_n (pc' := 277) hX dL_law_276 rfl rfl ?_
  refine V_aload_n (pc' := 278) hX dL_law_277 rfl rfl ?_
  refine V_iload (pc' := 280) hX dL_law_278 rfl rfl ?_
  refine V_iconst (v := nI 1) (pc' := 281) hX dL_law_280 rfl rfl ?_
  refine V_iaddN (pc' := 282) hX dL_law_281 rfl ?_
  refine V_scr (j := 6 * it + 1) (pc' := 283) C (by omega) hX dL_law_282 rfl ?_
  refine V_aload_n (pc' := 284) hX dL_law_283 rfl rfl ?_
  refine V_iload (pc' := 286) hX dL_law_284 rfl rfl ?_
  refine V_iconst (v := nI 2) (pc' := 287) hX dL_law_286 rfl rfl ?_
  refine V_iaddN (pc' := 288) hX dL_law_287 rfl ?_
  refine V_scr (j := 6 * it + 2) (pc' := 289) C (by omega) hX dL_law_288 rfl ?_
  refine V_callV (nA := 2) (pc' := 292) (k' := 43 + 3 * it) (n' := 21458 + 64 * it) (As := [.int (xs (6 * it + 1)), .int (xs (6 * it + 2))]) (rest := [.int wr]) hX dL_law_289 hC2 he1 rfl wM_L_41 wI_X8_weight wL_X8_weight wN_X8 wC_X8_weight rfl hy_X8_weight rfl (Nat.le_of_ble_eq_true rfl) (by decide) (by omega) rfl rfl (by omega) rfl (by omega) rfl ?_
  rintro _ z2 h2 ⟨rfl, -, R2⟩
  refine V_icmp_eq (pt := 935) (pc' := 295) hX dL_law_292 rfl rfl (fun _ => ?_) (fun e => absurd rfl e)
  exact V.widen (by omega) (by omega) (nx z2 h2 R2)
theorem law_c5 {X : CX} {b L : Nat} {xs : Nat → Int32} {it x : Nat} (C : CTX X b L xs it x) {z : Nat} {h : AH} (R : REL X.G h z x) (nx : ∀ (z : Nat) (h : AH), REL X.G h z x → V X (43 + 3 * (it + 1)) (21458 + 64 * (it + 1)) z h 935 [some (.ref b), some (.ref x), some (.ref (x + 23)), some (.ref (x + 42)), some (.int (nI (6 * it))), none, none] []) : V X (43 + 3 * it) (21458 + 64 * it) z h 297 [some (.ref b), some (.ref x), some (.ref (x + 23)), some (.ref (x + 42)), some (.int (nI (6 * it))), none, none] [] := by
  obtain ⟨mk, sa, L, M, F, W, fn, fv, fs, tn, tv, ts, kd, p, q, bf, len, ta, sp, f1, f2, f3, ks, ff, fg, co, th, fm, cm, be, dz, mn, st, un, uv, gn, gv, on, tw, bm, g1, g2, g3, sv, fa, fy, bs, cf, R⟩ := R
  have hx0 := R.1.1.1
  have hX := C.1
  have hL1 := C.2.2.2.2.2.1
  have hL2 := C.2.2.2.2.2.2.1
  refine V_aload_n (pc' := 298) hX dL_law_297 rfl rfl ?_
  refine V_aload_n (pc' := 299) hX dL_law_298 rfl rfl ?_
  refine V_iload (pc' := 301) hX dL_law_299 rfl rfl ?_
  refine V_iconst (v := nI 1) (pc' := 302) hX dL_law_301 rfl rfl ?_
  refine V_iaddN (pc' := 303) hX dL_law_302 rfl ?_
  refine V_scr (j := 6 * it + 1) (pc' := 304) C (by omega) hX dL_law_303 rfl ?_
  refine V_aload_n (pc' := 305) hX dL_law_304 rfl rfl ?_
  refine V_iload (pc' := 307) hX dL_law_305 rfl rfl ?_
  refine V_iconst (v := nI 2) (pc' := 308) hX dL_law_307 rfl rfl ?_
  refine V_iaddN (pc' := 309) hX dL_law_308 rfl ?_
  refine V_scr (j := 6 * it + 2) (pc' := 310) C (by omega) hX dL_law_309 rfl ?_
  refine V_aload_n (pc' := 311) hX dL_law_310 rfl rfl ?_
  refine V_iload (pc' := 313) hX dL_law_311 rfl rfl ?_
  refine V_iconst (v := nI 3) (pc' := 314) hX dL_law_313 rfl rfl ?_
  refine V_iaddN (pc' := 315) hX dL_law_314 rfl ?_
  refine V_scr (j := 6 * it + 3) (pc' := 316) C (by omega) hX dL_law_315 rfl ?_
  refine V_aload_n (pc' := 317) hX dL_law_316 rfl rfl ?_
  refine V_iload (pc' := 319) hX dL_law_317 rfl rfl ?_
  refine V_iconst (v := nI 4) (pc' := 320) hX dL_law_319 rfl rfl ?_
  refine V_iaddN (pc' := 321) hX dL_law_320 rfl ?_
  refine V_scr (j := 6 * it + 4) (pc' := 322) C (by omega) hX dL_law_321 rfl ?_
  refine V_aload_n (pc' := 323) hX dL_law_322 rfl rfl ?_
  refine V_iload (pc' := 325) hX dL_law_323 rfl rfl ?_
  refine V_iconst (v := nI 5) (pc' := 326) hX dL_law_325 rfl rfl ?_
  refine V_iaddN (pc' := 327) hX dL_law_326 rfl ?_
  refine V_scr (j := 6 * it + 5) (pc' := 328) C (by omega) hX dL_law_327 rfl ?_
  refine V_callV (nA := 5) (pc' := 331) (k' := 43 + 3 * it) (n' := 21458 + 64 * it) (As := [.int (xs (6 * it + 1)), .int (xs (6 * it + 2)), .int (xs (6 * it + 3)), .int (xs (6 * it + 4)), .int (xs (6 * it + 5))]) (rest := []) hX dL_law_328 (sim_feed R (xs (6 * it + 1)) (xs (6 * it + 2)) (xs (6 * it + 3)) (xs (6 * it + 4)) (xs (6 * it + 5))) hx0 rfl wM_L_42 wI_X7_feed wL_X7_feed wN_X7 wC_X7_feed rfl hy_X7_feed rfl (Nat.le_of_ble_eq_true rfl) (by decide) (by omega) rfl rfl (by omega) rfl (by omega) rfl ?_
  rintro _ z1 h1 ⟨wr, fs1, rfl, he1, hC2⟩
  refine V_aload_n (pc' := 332) hX dL_law_331 rfl rfl ?_
  refine V_aload_n (pc' := 333) hX dL_law_332 rfl rfl ?_
  refine V_iload (pc' := 335) hX dL_law_333 rfl rfl ?_
  refine V_iconst (v := nI 1) (pc' := 336) hX dL_law_335 rfl rfl ?_
  refine V_iaddN (pc' := 337) hX dL_law_336 rfl ?_
  refine V_scr (j := 6 * it + 1) (pc' := 338) C (by omega) hX dL_law_337 rfl ?_
  refine V_aload_n (pc' := 339) hX dL_law_338 rfl rfl ?_
  refine V_iload (pc' := 341) hX dL_law_339 rfl rfl ?_
  refine V_iconst (v := nI 2) (pc' := 342) hX dL_law_341 rfl rfl ?_
  refine V_iaddN (pc' := 343) hX dL_law_342 rfl ?_
  refine V_scr (j := 6 * it + 2) (pc' := 344) C (by omega) hX dL_law_343 rfl ?_
  refine V_aload_n (pc' := 345) hX dL_law_344 rfl rfl ?_
  refine V_iload (pc' := 347) hX dL_law_345 rfl rfl ?_
  refine V_iconst (v := nI 3) (pc' := 348) hX dL_law_347 rfl rfl ?_
  refine V_iaddN (pc' := 349) hX dL_law_348 rfl ?_
  refine V_scr (j := 6 * it + 3) (pc' := 350) C (by omega) hX dL_law_349 rfl ?_
  refine V_aload_n (pc' := 351) hX dL_law_350 rfl rfl ?_
  refine V_iload (pc' := 353) hX dL_law_351 rfl rfl ?_
  refine V_iconst (v := nI 4) (pc' := 354) hX dL_law_353 rfl rfl ?_
  refine V_iaddN (pc' := 355) hX dL_law_354 rfl ?_
  refine V_scr (j := 6 * it + 4) (pc' := 356) C (by omega) hX dL_law_355 rfl ?_
  refine V_aload_n (pc' := 357) hX dL_law_356 rfl rfl ?_
  refine V_iload (pc' := 359) hX dL_law_357 rfl rfl ?_
  refine V_iconst (v := nI 5) (pc' := 360) hX dL_law_359 rfl rfl ?_
  refine V_iaddN (pc' := 361) hX dL_law_360 rfl ?_
  refine V_scr (j := 6 * it + 5) (pc' := 362) C (by omega) hX dL_law_361 rfl ?_
  refine V_callV (nA := 5) (pc' := 365) (k' := 43 + 3 * it) (n' := 21458 + 64 * it) (As := [.int (xs (6 * it + 1)), .int (xs (6 * it + 2)), .int (xs (6 * it + 3)), .int (xs (6 * it + 4)), .int (xs (6 * it + 5))]) (rest := [.int wr]) hX dL_law_362 hC2 he1 rfl wM_L_46 wI_X8_feed wL_X8_feed wN_X8 wC_X8_feed rfl hy_X8_feed rfl (Nat.le_of_ble_eq_true rfl) (by decide) (by omega) rfl rfl (by omega) rfl (by omega) rfl ?_
  rintro _ z2 h2 ⟨rfl, -, R2⟩
  refine V_icmp_eq (pt := 935) (pc' := 368) hX dL_law_365 rfl rfl (fun _ => ?_) (fun e => absurd rfl e)
  exact V.widen (by omega) (by omega) (nx z2 h2 R2)
theorem law_c6 {X : CX} {b L : Nat} {xs : Nat → Int32} {it x : Nat} (C : CTX X b L xs it x) {z : Nat} {h : AH} (R : REL X.G h z x) (nx : ∀ (z : Nat) (h : AH), REL X.G h z x → V X (43 + 3 * (it + 1)) (21458 + 64 * (it + 1)) z h 935 [some (.ref b), some (.ref x), some (.ref (x + 23)), some (.ref (x + 42)), some (.int (nI (6 * it))), none, none] []) : V X (43 + 3 * it) (21458 + 64 * it) z h 370 [some (.ref b), some (.ref x), some (.ref (x + 23)), some (.ref (x + 42)), some (.int (nI (6 * it))), none, none] [] := by
  obtain ⟨mk, sa, L, M, F, W, fn, fv, fs, tn, tv, ts, kd, p, q, bf, len, ta, sp, f1, f2, f3, ks, ff, fg, co, th, fm, cm, be, dz, mn, st, un, uv, gn, gv, on, tw, bm, g1, g2, g3, sv, fa, fy, bs, cf, R⟩ := R
  have hx0 := R.1.1.1
  have hX := C.1
  have hL1 := C.2.2.2.2.2.1
  have hL2 := C.2.2.2.2.2.2.1
  refine V_aload_n (pc' := 371) hX dL_law_370 rfl rfl ?_
  refine V_aload_n (pc' := 372) hX dL_law_371 rfl rfl ?_
  refine V_iload (pc' := 374) hX dL_law_372 rfl rfl ?_
  refine V_iconst (v := nI 1) (pc' := 375) hX dL_law_374 rfl rfl ?_
  refine V_iaddN (pc' := 376) hX dL_law_375 rfl ?_
  refine V_scr (j := 6 * it + 1) (pc' := 377) C (by omega) hX dL_law_376 rfl ?_
  refine V_callV (nA := 1) (pc' := 380) (k' := 43 + 3 * it) (n' := 21458 + 64 * it) (As := [.int (xs (6 * it + 1))]) (rest := []) hX dL_law_377 (sim_end R (xs (6 * it + 1))) hx0 rfl wM_L_47 wI_X7_end wL_X7_end wN_X7 wC_X7_end rfl hy_X7_end rfl (Nat.le_of_ble_eq_true rfl) (by decide) (by omega) rfl rfl (by omega) rfl (by omega) rfl ?_
  rintro _ z1 h1 ⟨wr, fs1, rfl, he1, hC2⟩
  refine V_aload_n (pc' := 381) hX dL_law_380 rfl rfl ?_
  refine V_aload_n (pc' := 382) hX dL_law_381 rfl rfl ?_
  refine V_iload (pc' := 384) hX dL_law_382 rfl rfl ?_
  refine V_iconst (v := nI 1) (pc' := 385) hX dL_law_384 rfl rfl ?_
  refine V_iaddN (pc' := 386) hX dL_law_385 rfl ?_
  refine V_scr (j := 6 * it + 1) (pc' := 387) C (by omega) hX dL_law_386 rfl ?_
  refine V_callV (nA := 1) (pc' := 390) (k' := 43 + 3 * it) (n' := 21458 + 64 * it) (As := [.int (xs (6 * it + 1))]) (rest := [.int wr]) hX dL_law_387 hC2 he1 rfl wM_L_51 wI_X8_end wL_X8_end wN_X8 wC_X8_end rfl hy_X8_end rfl (Nat.le_of_ble_eq_true rfl) (by decide) (by omega) rfl rfl (by omega) rfl (by omega) rfl ?_
  rintro _ z2 h2 ⟨rfl, -, R2⟩
  refine V_icmp_eq (pt := 935) (pc' := 393) hX dL_law_390 rfl rfl (fun _ => ?_) (fun e => absurd rfl e)
  exact V.widen (by omega) (by omega) (nx z2 h2 R2)
theorem law_c7 {X : CX} {b L : Nat} {xs : Nat → Int32} {it x : Nat} (C : CTX X b L xs it x) {z : Nat} {h : AH} (R : REL X.G h z x) (nx : ∀ (z : Nat) (h : AH), REL X.G h z x → V X (43 + 3 * (it + 1)) (21458 + 64 * (it + 1)) z h 935 [some (.ref b), some (.ref x), some (.ref (x + 23)), some (.ref (x + 42)), some (.int (nI (6 * it))), none, none] []) : V X (43 + 3 * it) (21458 + 64 * it) z h 395 [some (.ref b), some (.ref x), some (.ref (x + 23)), some (.ref (x + 42)), some (.int (nI (6 * it))), none, none] [] := by
  obtain ⟨mk, sa, L, M, F, W, fn, fv, fs, tn, tv, ts, kd, p, q, bf, len, ta, sp, f1, f2, f3, ks, ff, fg, co, th, fm, cm, be, dz, mn, st, un, uv, gn, gv, on, tw, bm, g1, g2, g3, sv, fa, fy, bs, cf, R⟩ := R
  have hx0 := R.1.1.1
  have hX := C.1
  have hL1 := C.2.2.2.2.2.1
  have hL2 := C.2.2.2.2.2.2.1
  refine V_aload_n (pc' := 396) hX dL_law_395 rfl rfl ?_
  refine V_aload_n (pc' := 397) hX dL_law_396 rfl rfl ?_
  refine V_iload (pc' := 399) hX dL_law_397 rfl rfl ?_
  refine V_iconst (v := nI 1) (pc' := 400) hX dL_law_399 rfl rfl ?_
  refine V_iaddN (pc' := 401) hX dL_law_400 rfl ?_
  refine V_scr (j := 6 * it + 1) (pc' := 402) C (by omega) hX dL_law_401 rfl ?_
  refine V_aload_n (pc' := 403) hX dL_law_402 rfl rfl ?_
  refine V_iload (pc' := 405) hX dL_law_403 rfl rfl ?_
  refine V_iconst (v := nI 2) (pc' := 406) hX dL_law_405 rfl rfl ?_
  refine V_iaddN (pc' := 407) hX dL_law_406 rfl ?_
  refine V_scr (j := 6 * it + 2) (pc' := 408) C (by omega) hX dL_law_407 rfl ?_
  refine V_callV (nA := 2) (pc' := 411) (k' := 43 + 3 * it) (n' := 21458 + 64 * it) (As := [.int (xs (6 * it + 1)), .int (xs (6 * it + 2))]) (rest := []) hX dL_law_408 (sim_text R (xs (6 * it + 1)) (xs (6 * it + 2))) hx0 rfl wM_L_52 wI_X7_text wL_X7_text wN_X7 wC_X7_text rfl hy_X7_text rfl (Nat.le_of_ble_eq_true rfl) (by decide) (by omega) rfl rfl (by omega) rfl (by omega) rfl ?_
  rintro _ z1 h1 ⟨wr, fs1, rfl, he1, hC2⟩
  refine V_aload_n (pc' := 412) hX dL_law_411 rfl rfl ?_
  refine V_aload_n (pc' := 413) hX dL_law_412 rfl rfl ?_
  refine V_iload (pc' := 415) hX dL_law_413 rfl rfl ?_
  refine V_iconst (v := nI 1) (pc' := 416) hX dL_law_415 rfl rfl ?_
  refine V_iaddN (pc' := 417) hX dL_law_416 rfl ?_
  refine V_scr (j := 6 * it + 1) (pc' := 418) C (by omega) hX dL_law_417 rfl ?_
  refine V_aload_n (pc' := 419) hX dL_law_418 rfl rfl ?_
  refine V_iload (pc' := 421) hX dL_law_419 rfl rfl ?_
  refine V_iconst (v := nI 2) (pc' := 422) hX dL_law_421 rfl rfl ?_
  refine V_iaddN (pc' := 423) hX dL_law_422 rfl ?_
  refine V_scr (j := 6 * it + 2) (pc' := 424) C (by omega) hX dL_law_423 rfl ?_
  refine V_callV (nA := 2) (pc' := 427) (k' := 43 + 3 * it) (n' := 21458 + 64 * it) (As := [.int (xs (6 * it + 1)), .int (xs (6 * it + 2))]) (rest := [.int wr]) hX dL_law_424 hC2 he1 rfl wM_L_55 wI_X8_text wL_X8_text wN_X8 wC_X8_text rfl hy_X8_text rfl (Nat.le_of_ble_eq_true rfl) (by decide) (by omega) rfl rfl (by omega) rfl (by omega) rfl ?_
  rintro _ z2 h2 ⟨rfl, -, R2⟩
  refine V_icmp_eq (pt := 935) (pc' := 430) hX dL_law_427 rfl rfl (fun _ => ?_) (fun e => absurd rfl e)
  exact V.widen (by omega) (by omega) (nx z2 h2 R2)
theorem law_c8 {X : CX} {b L : Nat} {xs : Nat → Int32} {it x : Nat} (C : CTX X b L xs it x) {z : Nat} {h : AH} (R : REL X.G h z x) (nx : ∀ (z : Nat) (h : AH), REL X.G h z x → V X (43 + 3 * (it + 1)) (21458 + 64 * (it + 1)) z h 935 [some (.ref b), some (.ref x), some (.ref (x + 23)), some (.ref (x + 42)), some (.int (nI (6 * it))), none, none] []) : V X (43 + 3 * it) (21458 + 64 * it) z h 432 [some (.ref b), some (.ref x), some (.ref (x + 23)), some (.ref (x + 42)), some (.int (nI (6 * it))), none, none] [] := by
  obtain ⟨mk, sa, L, M, F, W, fn, fv, fs, tn, tv, ts, kd, p, q, bf, len, ta, sp, f1, f2, f3, ks, ff, fg, co, th, fm, cm, be, dz, mn, st, un, uv, gn, gv, on, tw, bm, g1, g2, g3, sv, fa, fy, bs, cf, R⟩ := R
  have hx0 := R.1.1.1
  have hX := C.1
  have hL1 := C.2.2.2.2.2.1
  have hL2 := C.2.2.2.2.2.2.1
  refine V_aload_n (pc' := 433) hX dL_law_432 rfl rfl ?_
  refine V_aload_n (pc' := 434) hX dL_law_433 rfl rfl ?_
  refine V_iload (pc' := 436) hX dL_law_434 rfl rfl ?_
  refine V_iconst (v := nI 1) (pc' := 437) hX dL_law_436 rfl rfl ?_
  refine V_iaddN (pc' := 438) hX dL_law_437 rfl ?_
  refine V_scr (j := 6 * it + 1) (pc' := 439) C (by omega) hX dL_law_438 rfl ?_
  refine V_aload_n (pc' := 440) hX dL_law_439 rfl rfl ?_
  refine V_iload (pc' := 442) hX dL_law_440 rfl rfl ?_
  refine V_iconst (v := nI 2) (pc' := 443) hX dL_law_442 rfl rfl ?_
  refine V_iaddN (pc' := 444) hX dL_law_443 rfl ?_
  refine V_scr (j := 6 * it + 2) (pc' := 445) C (by omega) hX dL_law_444 rfl ?_
  refine V_aload_n (pc' := 446) hX dL_law_445 rfl rfl ?_
  refine V_iload (pc' := 448) hX dL_law_446 rfl rfl ?_
  refine V_iconst (v := nI 3) (pc' := 449) hX dL_law_448 rfl rfl ?_
  refine V_iaddN (pc' := 450) hX dL_law_449 rfl ?_
  refine V_scr (j := 6 * it + 3) (pc' := 451) C (by omega) hX dL_law_450 rfl ?_
  refine V_callV (nA := 3) (pc' := 454) (k' := 43 + 3 * it) (n' := 21458 + 64 * it) (As := [.int (xs (6 * it + 1)), .int (xs (6 * it + 2)), .int (xs (6 * it + 3))]) (rest := []) hX dL_law_451 (sim_measure R (xs (6 * it + 1)) (xs (6 * it + 2)) (xs (6 * it + 3))) hx0 rfl wM_L_56 wI_X7_measure wL_X7_measure wN_X7 wC_X7_measure rfl hy_X7_measure rfl (Nat.le_of_ble_eq_true rfl) (by decide) (by omega) rfl rfl (by omega) rfl (by omega) rfl ?_
  rintro _ z1 h1 ⟨wr, fs1, rfl, he1, hC2⟩
  refine V_aload_n (pc' := 455) hX dL_law_454 rfl rfl ?_
  refine V_aload_n (pc' := 456) hX dL_law_455 rfl rfl ?_
  refine V_iload (pc' := 458) hX dL_law_456 rfl rfl ?_
  refine V_iconst (v := nI 1) (pc' := 459) hX dL_law_458 rfl rfl ?_
  refine V_iaddN (pc' := 460) hX dL_law_459 rfl ?_
  refine V_scr (j := 6 * it + 1) (pc' := 461) C (by omega) hX dL_law_460 rfl ?_
  refine V_aload_n (pc' := 462) hX dL_law_461 rfl rfl ?_
  refine V_iload (pc' := 464) hX dL_law_462 rfl rfl ?_
  refine V_iconst (v := nI 2) (pc' := 465) hX dL_law_464 rfl rfl ?_
  refine V_iaddN (pc' := 466) hX dL_law_465 rfl ?_
  refine V_scr (j := 6 * it + 2) (pc' := 467) C (by omega) hX dL_law_466 rfl ?_
  refine V_aload_n (pc' := 468) hX dL_law_467 rfl rfl ?_
  refine V_iload (pc' := 470) hX dL_law_468 rfl rfl ?_
  refine V_iconst (v := nI 3) (pc' := 471) hX dL_law_470 rfl rfl ?_
  refine V_iaddN (pc' := 472) hX dL_law_471 rfl ?_
  refine V_scr (j := 6 * it + 3) (pc' := 473) C (by omega) hX dL_law_472 rfl ?_
  refine V_callV (nA := 3) (pc' := 476) (k' := 43 + 3 * it) (n' := 21458 + 64 * it) (As := [.int (xs (6 * it + 1)), .int (xs (6 * it + 2)), .int (xs (6 * it + 3))]) (rest := [.int wr]) hX dL_law_473 hC2 he1 rfl wM_L_60 wI_X8_measure wL_X8_measure wN_X8 wC_X8_measure rfl hy_X8_measure rfl (Nat.le_of_ble_eq_true rfl) (by decide) (by omega) rfl rfl (by omega) rfl (by omega) rfl ?_
  rintro _ z2 h2 ⟨rfl, -, R2⟩
  refine V_icmp_eq (pt := 935) (pc' := 479) hX dL_law_476 rfl rfl (fun _ => ?_) (fun e => absurd rfl e)
  exact V.widen (by omega) (by omega) (nx z2 h2 R2)
theorem law_c9 {X : CX} {b L : Nat} {xs : Nat → Int32} {it x : Nat} (C : CTX X b L xs it x) {z : Nat} {h : AH} (R : REL X.G h z x) (nx : ∀ (z : Nat) (h : AH), REL X.G h z x → V X (43 + 3 * (it + 1)) (21458 + 64 * (it + 1)) z h 935 [some (.ref b), some (.ref x), some (.ref (x + 23)), some (.ref (x + 42)), some (.int (nI (6 * it))), none, none] []) : V X (43 + 3 * it) (21458 + 64 * it) z h 481 [some (.ref b), some (.ref x), some (.ref (x + 23)), some (.ref (x + 42)), some (.int (nI (6 * it))), none, none] [] := by
  obtain ⟨mk, sa, L, M, F, W, fn, fv, fs, tn, tv, ts, kd, p, q, bf, len, ta, sp, f1, f2, f3, ks, ff, fg, co, th, fm, cm, be, dz, mn, st, un, uv, gn, gv, on, tw, bm, g1, g2, g3, sv, fa, fy, bs, cf, R⟩ := R
  have hx0 := R.1.1.1
  have hX := C.1
  have hL1 := C.2.2.2.2.2.1
  have hL2 := C.2.2.2.2.2.2.1
  refine V_aload_n (pc' := 482) hX dL_law_481 rfl rfl ?_
  refine V_callV (nA := 0) (pc' := 485) (k' := 43 + 3 * it) (n' := 21458 + 64 * it) (As := []) (rest := []) hX dL_law_482 (sim_order R ) hx0 rfl wM_L_61 wI_X7_order wL_X7_order wN_X7 wC_X7_order rfl hy_X7_order rfl (Nat.le_of_ble_eq_true rfl) (by decide) (by omega) rfl rfl (by omega) rfl (by omega) rfl ?_
  rintro _ z1 h1 ⟨wr, fs1, rfl, he1, hC2⟩
  refine V_aload_n (pc' := 486) hX dL_law_485 rfl rfl ?_
  refine V_callV (nA := 0) (pc' := 489) (k' := 43 + 3 * it) (n' := 21458 + 64 * it) (As := []) (rest := [.int wr]) hX dL_law_486 hC2 he1 rfl wM_L_64 wI_X8_order wL_X8_order wN_X8 wC_X8_order rfl hy_X8_order rfl (Nat.le_of_ble_eq_true rfl) (by decide) (by omega) rfl rfl (by omega) rfl (by omega) rfl ?_
  rintro _ z2 h2 ⟨rfl, -, R2⟩
  refine V_icmp_eq (pt := 935) (pc' := 492) hX dL_law_489 rfl rfl (fun _ => ?_) (fun e => absurd rfl e)
  exact V.widen (by omega) (by omega) (nx z2 h2 R2)
theorem law_c10 {X : CX} {b L : Nat} {xs : Nat → Int32} {it x : Nat} (C : CTX X b L xs it x) {z : Nat} {h : AH} (R : REL X.G h z x) (nx : ∀ (z : Nat) (h : AH), REL X.G h z x → V X (43 + 3 * (it + 1)) (21458 + 64 * (it + 1)) z h 935 [some (.ref b), some (.ref x), some (.ref (x + 23)), some (.ref (x + 42)), some (.int (nI (6 * it))), none, none] []) : V X (43 + 3 * it) (21458 + 64 * it) z h 494 [some (.ref b), some (.ref x), some (.ref (x + 23)), some (.ref (x + 42)), some (.int (nI (6 * it))), none, none] [] := by
  obtain ⟨mk, sa, L, M, F, W, fn, fv, fs, tn, tv, ts, kd, p, q, bf, len, ta, sp, f1, f2, f3, ks, ff, fg, co, th, fm, cm, be, dz, mn, st, un, uv, gn, gv, on, tw, bm, g1, g2, g3, sv, fa, fy, bs, cf, R⟩ := R
  have hx0 := R.1.1.1
  have hX := C.1
  have hL1 := C.2.2.2.2.2.1
  have hL2 := C.2.2.2.2.2.2.1
  refine V_aload_n (pc' := 495) hX dL_law_494 rfl rfl ?_
  refine V_aload_n (pc' := 496) hX dL_law_495 rfl rfl ?_
  refine V_iload (pc' := 498) hX dL_law_496 rfl rfl ?_
  refine V_iconst (v := nI 1) (pc' := 499) hX dL_law_498 rfl rfl ?_
  refine V_iaddN (pc' := 500) hX dL_law_499 rfl ?_
  refine V_scr (j := 6 * it + 1) (pc' := 501) C (by omega) hX dL_law_500 rfl ?_
  refine V_callV (nA := 1) (pc' := 504) (k' := 43 + 3 * it) (n' := 21458 + 64 * it) (As := [.int (xs (6 * it + 1))]) (rest := []) hX dL_law_501 (sim_frequency R (xs (6 * it + 1))) hx0 rfl wM_L_65 wI_X7_frequency wL_X7_frequency wN_X7 wC_X7_frequency rfl hy_X7_frequency rfl (Nat.le_of_ble_eq_true rfl) (by decide) (by omega) rfl rfl (by omega) rfl (by omega) rfl ?_
  rintro _ z1 h1 ⟨wr, fs1, rfl, he1, hC2⟩
  refine V_aload_n (pc' := 505) hX dL_law_504 rfl rfl ?_
  refine V_aload_n (pc' := 506) hX dL_law_505 rfl rfl ?_
  refine V_iload (pc' := 508) hX dL_law_506 rfl rfl ?_
  refine V_iconst (v := nI 1) (pc' := 509) hX dL_law_508 rfl rfl ?_
  refine V_iaddN (pc' := 510) hX dL_law_509 rfl ?_
  refine V_scr (j := 6 * it + 1) (pc' := 511) C (by omega) hX dL_law_510 rfl ?_
  refine V_callV (nA := 1) (pc' := 514) (k' := 43 + 3 * it) (n' := 21458 + 64 * it) (As := [.int (xs (6 * it + 1))]) (rest := [.int wr]) hX dL_law_511 hC2 he1 rfl wM_L_68 wI_X8_frequency wL_X8_frequency wN_X8 wC_X8_frequency rfl hy_X8_frequency rfl (Nat.le_of_ble_eq_true rfl) (by decide) (by omega) rfl rfl (by omega) rfl (by omega) rfl ?_
  rintro _ z2 h2 ⟨rfl, -, R2⟩
  refine V_icmp_eq (pt := 935) (pc' := 517) hX dL_law_514 rfl rfl (fun _ => ?_) (fun e => absurd rfl e)
  exact V.widen (by omega) (by omega) (nx z2 h2 R2)
theorem law_c11 {X : CX} {b L : Nat} {xs : Nat → Int32} {it x : Nat} (C : CTX X b L xs it x) {z : Nat} {h : AH} (R : REL X.G h z x) (nx : ∀ (z : Nat) (h : AH), REL X.G h z x → V X (43 + 3 * (it + 1)) (21458 + 64 * (it + 1)) z h 935 [some (.ref b), some (.ref x), some (.ref (x + 23)), some (.ref (x + 42)), some (.int (nI (6 * it))), none, none] []) : V X (43 + 3 * it) (21458 + 64 * it) z h 519 [some (.ref b), some (.ref x), some (.ref (x + 23)), some (.ref (x + 42)), some (.int (nI (6 * it))), none, none] [] := by
  obtain ⟨mk, sa, L, M, F, W, fn, fv, fs, tn, tv, ts, kd, p, q, bf, len, ta, sp, f1, f2, f3, ks, ff, fg, co, th, fm, cm, be, dz, mn, st, un, uv, gn, gv, on, tw, bm, g1, g2, g3, sv, fa, fy, bs, cf, R⟩ := R
  have hx0 := R.1.1.1
  have hX := C.1
  have hL1 := C.2.2.2.2.2.1
  have hL2 := C.2.2.2.2.2.2.1
  refine V_aload_n (pc' := 520) hX dL_law_519 rfl rfl ?_
  refine V_aload_n (pc' := 521) hX dL_law_520 rfl rfl ?_
  refine V_iload (pc' := 523) hX dL_law_521 rfl rfl ?_
  refine V_iconst (v := nI 1) (pc' := 524) hX dL_law_523 rfl rfl ?_
  refine V_iaddN (pc' := 525) hX dL_law_524 rfl ?_
  refine V_scr (j := 6 * it + 1) (pc' := 526) C (by omega) hX dL_law_525 rfl ?_
  refine V_aload_n (pc' := 527) hX dL_law_526 rfl rfl ?_
  refine V_iload (pc' := 529) hX dL_law_527 rfl rfl ?_
  refine V_iconst (v := nI 2) (pc' := 530) hX dL_law_529 rfl rfl ?_
  refine V_iaddN (pc' := 531) hX dL_law_530 rfl ?_
  refine V_scr (j := 6 * it + 2) (pc' := 532) C (by omega) hX dL_law_531 rfl ?_
  refine V_callV (nA := 2) (pc' := 535) (k' := 43 + 3 * it) (n' := 21458 + 64 * it) (As := [.int (xs (6 * it + 1)), .int (xs (6 * it + 2))]) (rest := []) hX dL_law_532 (sim_about R (xs (6 * it + 1)) (xs (6 * it + 2))) hx0 rfl wM_L_69 wI_X7_about wL_X7_about wN_X7 wC_X7_about rfl hy_X7_about rfl (Nat.le_of_ble_eq_true rfl) (by decide) (by omega) rfl rfl (by omega) rfl (by omega) rfl ?_
  rintro _ z1 h1 ⟨wr, fs1, rfl, he1, hC2⟩
  refine V_aload_n (pc' := 536) hX dL_law_535 rfl rfl ?_
  refine V_aload_n (pc' := 537) hX dL_law_536 rfl rfl ?_
  refine V_iload (pc' := 539) hX dL_law_537 rfl rfl ?_
  refine V_iconst (v := nI 1) (pc' := 540) hX dL_law_539 rfl rfl ?_
  refine V_iaddN (pc' := 541) hX dL_law_540 rfl ?_
  refine V_scr (j := 6 * it + 1) (pc' := 542) C (by omega) hX dL_law_541 rfl ?_
  refine V_aload_n (pc' := 543) hX dL_law_542 rfl rfl ?_
  refine V_iload (pc' := 545) hX dL_law_543 rfl rfl ?_
  refine V_iconst (v := nI 2) (pc' := 546) hX dL_law_545 rfl rfl ?_
  refine V_iaddN (pc' := 547) hX dL_law_546 rfl ?_
  refine V_scr (j := 6 * it + 2) (pc' := 548) C (by omega) hX dL_law_547 rfl ?_
  refine V_callV (nA := 2) (pc' := 551) (k' := 43 + 3 * it) (n' := 21458 + 64 * it) (As := [.int (xs (6 * it + 1)), .int (xs (6 * it + 2))]) (rest := [.int wr]) hX dL_law_548 hC2 he1 rfl wM_L_72 wI_X8_about wL_X8_about wN_X8 wC_X8_about rfl hy_X8_about rfl (Nat.le_of_ble_eq_true rfl) (by decide) (by omega) rfl rfl (by omega) rfl (by omega) rfl ?_
  rintro _ z2 h2 ⟨rfl, -, R2⟩
  refine V_icmp_eq (pt := 935) (pc' := 554) hX dL_law_551 rfl rfl (fun _ => ?_) (fun e => absurd rfl e)
  exact V.widen (by omega) (by omega) (nx z2 h2 R2)
theorem law_c12 {X : CX} {b L : Nat} {xs : Nat → Int32} {it x : Nat} (C : CTX X b L xs it x) {z : Nat} {h : AH} (R : REL X.G h z x) (nx : ∀ (z : Nat) (h : AH), REL X.G h z x → V X (43 + 3 * (it + 1)) (21458 + 64 * (it + 1)) z h 935 [some (.ref b), some (.ref x), some (.ref (x + 23)), some (.ref (x + 42)), some (.int (nI (6 * it))), none, none] []) : V X (43 + 3 * it) (21458 + 64 * it) z h 556 [some (.ref b), some (.ref x), some (.ref (x + 23)), some (.ref (x + 42)), some (.int (nI (6 * it))), none, none] [] := by
  obtain ⟨mk, sa, L, M, F, W, fn, fv, fs, tn, tv, ts, kd, p, q, bf, len, ta, sp, f1, f2, f3, ks, ff, fg, co, th, fm, cm, be, dz, mn, st, un, uv, gn, gv, on, tw, bm, g1, g2, g3, sv, fa, fy, bs, cf, R⟩ := R
  have hx0 := R.1.1.1
  have hX := C.1
  have hL1 := C.2.2.2.2.2.1
  have hL2 := C.2.2.2.2.2.2.1
  refine V_aload_n (pc' := 557) hX dL_law_556 rfl rfl ?_
  refine V_aload_n (pc' := 558) hX dL_law_557 rfl rfl ?_
  refine V_iload (pc' := 560) hX dL_law_558 rfl rfl ?_
  refine V_iconst (v := nI 1) (pc' := 561) hX dL_law_560 rfl rfl ?_
  refine V_iaddN (pc' := 562) hX dL_law_561 rfl ?_
  refine V_scr (j := 6 * it + 1) (pc' := 563) C (by omega) hX dL_law_562 rfl ?_
  refine V_aload_n (pc' := 564) hX dL_law_563 rfl rfl ?_
  refine V_iload (pc' := 566) hX dL_law_564 rfl rfl ?_
  refine V_iconst (v := nI 2) (pc' := 567) hX dL_law_566 rfl rfl ?_
  refine V_iaddN (pc' := 568) hX dL_law_567 rfl ?_
  refine V_scr (j := 6 * it + 2) (pc' := 569) C (by omega) hX dL_law_568 rfl ?_
  refine V_callV (nA := 2) (pc' := 572) (k' := 43 + 3 * it) (n' := 21458 + 64 * it) (As := [.int (xs (6 * it + 1)), .int (xs (6 * it + 2))]) (rest := []) hX dL_law_569 (sim_at R (xs (6 * it + 1)) (xs (6 * it + 2))) hx0 rfl wM_L_73 wI_X7_at wL_X7_at wN_X7 wC_X7_at rfl hy_X7_at rfl (Nat.le_of_ble_eq_true rfl) (by decide) (by omega) rfl rfl (by omega) rfl (by omega) rfl ?_
  rintro _ z1 h1 ⟨wr, fs1, rfl, he1, hC2⟩
  refine V_aload_n (pc' := 573) hX dL_law_572 rfl rfl ?_
  refine V_aload_n (pc' := 574) hX dL_law_573 rfl rfl ?_
  refine V_iload (pc' := 576) hX dL_law_574 rfl rfl ?_
  refine V_iconst (v := nI 1) (pc' := 577) hX dL_law_576 rfl rfl ?_
  refine V_iaddN (pc' := 578) hX dL_law_577 rfl ?_
  refine V_scr (j := 6 * it + 1) (pc' := 579) C (by omega) hX dL_law_578 rfl ?_
  refine V_aload_n (pc' := 580) hX dL_law_579 rfl rfl ?_
  refine V_iload (pc' := 582) hX dL_law_580 rfl rfl ?_
  refine V_iconst (v := nI 2) (pc' := 583) hX dL_law_582 rfl rfl ?_
  refine V_iaddN (pc' := 584) hX dL_law_583 rfl ?_
  refine V_scr (j := 6 * it + 2) (pc' := 585) C (by omega) hX dL_law_584 rfl ?_
  refine V_callV (nA := 2) (pc' := 588) (k' := 43 + 3 * it) (n' := 21458 + 64 * it) (As := [.int (xs (6 * it + 1)), .int (xs (6 * it + 2))]) (rest := [.int wr]) hX dL_law_585 hC2 he1 rfl wM_L_76 wI_X8_at wL_X8_at wN_X8 wC_X8_at rfl hy_X8_at rfl (Nat.le_of_ble_eq_true rfl) (by decide) (by omega) rfl rfl (by omega) rfl (by omega) rfl ?_
  rintro _ z2 h2 ⟨rfl, -, R2⟩
  refine V_icmp_eq (pt := 935) (pc' := 591) hX dL_law_588 rfl rfl (fun _ => ?_) (fun e => absurd rfl e)
  exact V.widen (by omega) (by omega) (nx z2 h2 R2)
theorem law_c13 {X : CX} {b L : Nat} {xs : Nat → Int32} {it x : Nat} (C : CTX X b L xs it x) {z : Nat} {h : AH} (R : REL X.G h z x) (nx : ∀ (z : Nat) (h : AH), REL X.G h z x → V X (43 + 3 * (it + 1)) (21458 + 64 * (it + 1)) z h 935 [some (.ref b), some (.ref x), some (.ref (x + 23)), some (.ref (x + 42)), some (.int (nI (6 * it))), none, none] []) : V X (43 + 3 * it) (21458 + 64 * it) z h 593 [some (.ref b), some (.ref x), some (.ref (x + 23)), some (.ref (x + 42)), some (.int (nI (6 * it))), none, none] [] := by
  obtain ⟨mk, sa, L, M, F, W, fn, fv, fs, tn, tv, ts, kd, p, q, bf, len, ta, sp, f1, f2, f3, ks, ff, fg, co, th, fm, cm, be, dz, mn, st, un, uv, gn, gv, on, tw, bm, g1, g2, g3, sv, fa, fy, bs, cf, R⟩ := R
  have hx0 := R.1.1.1
  have hX := C.1
  have hL1 := C.2.2.2.2.2.1
  have hL2 := C.2.2.2.2.2.2.1
  refine V_aload_n (pc' := 594) hX dL_law_593 rfl rfl ?_
  refine V_aload_n (pc' := 595) hX dL_law_594 rfl rfl ?_
  refine V_iload (pc' := 597) hX dL_law_595 rfl rfl ?_
  refine V_iconst (v := nI 1) (pc' := 598) hX dL_law_597 rfl rfl ?_
  refine V_iaddN (pc' := 599) hX dL_law_598 rfl ?_
  refine V_scr (j := 6 * it + 1) (pc' := 600) C (by omega) hX dL_law_599 rfl ?_
  refine V_aload_n (pc' := 601) hX dL_law_600 rfl rfl ?_
  refine V_iload (pc' := 603) hX dL_law_601 rfl rfl ?_
  refine V_iconst (v := nI 2) (pc' := 604) hX dL_law_603 rfl rfl ?_
  refine V_iaddN (pc' := 605) hX dL_law_604 rfl ?_
  refine V_scr (j := 6 * it + 2) (pc' := 606) C (by omega) hX dL_law_605 rfl ?_
  refine V_aload_n (pc' := 607) hX dL_law_606 rfl rfl ?_
  refine V_iload (pc' := 609) hX dL_law_607 rfl rfl ?_
  refine V_iconst (v := nI 3) (pc' := 610) hX dL_law_609 rfl rfl ?_
  refine V_iaddN (pc' := 611) hX dL_law_610 rfl ?_
  refine V_scr (j := 6 * it + 3) (pc' := 612) C (by omega) hX dL_law_611 rfl ?_
  refine V_callV (nA := 3) (pc' := 615) (k' := 43 + 3 * it) (n' := 21458 + 64 * it) (As := [.int (xs (6 * it + 1)), .int (xs (6 * it + 2)), .int (xs (6 * it + 3))]) (rest := []) hX dL_law_612 (sim_like R (xs (6 * it + 1)) (xs (6 * it + 2)) (xs (6 * it + 3))) hx0 rfl wM_L_77 wI_X7_like wL_X7_like wN_X7 wC_X7_like rfl hy_X7_like rfl (Nat.le_of_ble_eq_true rfl) (by decide) (by omega) rfl rfl (by omega) rfl (by omega) rfl ?_
  rintro _ z1 h1 ⟨wr, fs1, rfl, he1, hC2⟩
  refine V_aload_n (pc' := 616) hX dL_law_615 rfl rfl ?_
  refine V_aload_n (pc' := 617) hX dL_law_616 rfl rfl ?_
  refine V_iload (pc' := 619) hX dL_law_617 rfl rfl ?_
  refine V_iconst (v := nI 1) (pc' := 620) hX dL_law_619 rfl rfl ?_
  refine V_iaddN (pc' := 621) hX dL_law_620 rfl ?_
  refine V_scr (j := 6 * it + 1) (pc' := 622) C (by omega) hX dL_law_621 rfl ?_
  refine V_aload_n (pc' := 623) hX dL_law_622 rfl rfl ?_
  refine V_iload (pc' := 625) hX dL_law_623 rfl rfl ?_
  refine V_iconst (v := nI 2) (pc' := 626) hX dL_law_625 rfl rfl ?_
  refine V_iaddN (pc' := 627) hX dL_law_626 rfl ?_
  refine V_scr (j := 6 * it + 2) (pc' := 628) C (by omega) hX dL_law_627 rfl ?_
  refine V_aload_n (pc' := 629) hX dL_law_628 rfl rfl ?_
  refine V_iload (pc' := 631) hX dL_law_629 rfl rfl ?_
  refine V_iconst (v := nI 3) (pc' := 632) hX dL_law_631 rfl rfl ?_
  refine V_iaddN (pc' := 633) hX dL_law_632 rfl ?_
  refine V_scr (j := 6 * it + 3) (pc' := 634) C (by omega) hX dL_law_633 rfl ?_
  refine V_callV (nA := 3) (pc' := 637) (k' := 43 + 3 * it) (n' := 21458 + 64 * it) (As := [.int (xs (6 * it + 1)), .int (xs (6 * it + 2)), .int (xs (6 * it + 3))]) (rest := [.long wr]) hX dL_law_634 hC2 he1 rfl wM_L_81 wI_X8_like wL_X8_like wN_X8 wC_X8_like rfl hy_X8_like rfl (Nat.le_of_ble_eq_true rfl) (by decide) (by omega) rfl rfl (by omega) rfl (by omega) rfl ?_
  rintro _ z2 h2 ⟨rfl, -, R2⟩
  refine V_lcmp_eq (p1 := 638) (pt := 935) (pc' := 641) hX dL_law_637 rfl dL_law_638 rfl rfl (fun _ => ?_) (fun e => absurd rfl e)
  exact V.widen (by omega) (by omega) (nx z2 h2 R2)
theorem law_c14 {X : CX} {b L : Nat} {xs : Nat → Int32} {it x : Nat} (C : CTX X b L xs it x) {z : Nat} {h : AH} (R : REL X.G h z x) (nx : ∀ (z : Nat) (h : AH), REL X.G h z x → V X (43 + 3 * (it + 1)) (21458 + 64 * (it + 1)) z h 935 [some (.ref b), some (.ref x), some (.ref (x + 23)), some (.ref (x + 42)), some (.int (nI (6 * it))), none, none] []) : V X (43 + 3 * it) (21458 + 64 * it) z h 643 [some (.ref b), some (.ref x), some (.ref (x + 23)), some (.ref (x + 42)), some (.int (nI (6 * it))), none, none] [] := by
  obtain ⟨mk, sa, L, M, F, W, fn, fv, fs, tn, tv, ts, kd, p, q, bf, len, ta, sp, f1, f2, f3, ks, ff, fg, co, th, fm, cm, be, dz, mn, st, un, uv, gn, gv, on, tw, bm, g1, g2, g3, sv, fa, fy, bs, cf, R⟩ := R
  have hx0 := R.1.1.1
  have hX := C.1
  have hL1 := C.2.2.2.2.2.1
  have hL2 := C.2.2.2.2.2.2.1
  refine V_aload_n (pc' := 644) hX dL_law_643 rfl rfl ?_
  refine V_aload_n (pc' := 645) hX dL_law_644 rfl rfl ?_
  refine V_iload (pc' := 647) hX dL_law_645 rfl rfl ?_
  refine V_iconst (v := nI 1) (pc' := 648) hX dL_law_647 rfl rfl ?_
  refine V_iaddN (pc' := 649) hX dL_law_648 rfl ?_
  refine V_scr (j := 6 * it + 1) (pc' := 650) C (by omega) hX dL_law_649 rfl ?_
  refine V_aload_n (pc' := 651) hX dL_law_650 rfl rfl ?_
  refine V_iload (pc' := 653) hX dL_law_651 rfl rfl ?_
  refine V_iconst (v := nI 2) (pc' := 654) hX dL_law_653 rfl rfl ?_
  refine V_iaddN (pc' := 655) hX dL_law_654 rfl ?_
  refine V_scr (j := 6 * it + 2) (pc' := 656) C (by omega) hX dL_law_655 rfl ?_
  refine V_callV (nA := 2) (pc' := 659) (k' := 43 + 3 * it) (n' := 21458 + 64 * it) (As := [.int (xs (6 * it + 1)), .int (xs (6 * it + 2))]) (rest := []) hX dL_law_656 (sim_why R (xs (6 * it + 1)) (xs (6 * it + 2))) hx0 rfl wM_L_82 wI_X7_why wL_X7_why wN_X7 wC_X7_why rfl hy_X7_why rfl (Nat.le_of_ble_eq_true rfl) (by decide) (by omega) rfl rfl (by omega) rfl (by omega) rfl ?_
  rintro _ z1 h1 ⟨wr, fs1, rfl, he1, hC2⟩
  refine V_aload_n (pc' := 660) hX dL_law_659 rfl rfl ?_
  refine V_aload_n (pc' := 661) hX dL_law_660 rfl rfl ?_
  refine V_iload (pc' := 663) hX dL_law_661 rfl rfl ?_
  refine V_iconst (v := nI 1) (pc' := 664) hX dL_law_663 rfl rfl ?_
  refine V_iaddN (pc' := 665) hX dL_law_664 rfl ?_
  refine V_scr (j := 6 * it + 1) (pc' := 666) C (by omega) hX dL_law_665 rfl ?_
  refine V_aload_n (pc' := 667) hX dL_law_666 rfl rfl ?_
  refine V_iload (pc' := 669) hX dL_law_667 rfl rfl ?_
  refine V_iconst (v := nI 2) (pc' := 670) hX dL_law_669 rfl rfl ?_
  refine V_iaddN (pc' := 671) hX dL_law_670 rfl ?_
  refine V_scr (j := 6 * it + 2) (pc' := 672) C (by omega) hX dL_law_671 rfl ?_
  refine V_callV (nA := 2) (pc' := 675) (k' := 43 + 3 * it) (n' := 21458 + 64 * it) (As := [.int (xs (6 * it + 1)), .int (xs (6 * it + 2))]) (rest := [.int wr]) hX dL_law_672 hC2 he1 rfl wM_L_85 wI_X8_why wL_X8_why wN_X8 wC_X8_why rfl hy_X8_why rfl (Nat.le_of_ble_eq_true rfl) (by decide) (by omega) rfl rfl (by omega) rfl (by omega) rfl ?_
  rintro _ z2 h2 ⟨rfl, -, R2⟩
  refine V_icmp_eq (pt := 935) (pc' := 678) hX dL_law_675 rfl rfl (fun _ => ?_) (fun e => absurd rfl e)
  exact V.widen (by omega) (by omega) (nx z2 h2 R2)
theorem law_c15 {X : CX} {b L : Nat} {xs : Nat → Int32} {it x : Nat} (C : CTX X b L xs it x) {z : Nat} {h : AH} (R : REL X.G h z x) (nx : ∀ (z : Nat) (h : AH), REL X.G h z x → V X (43 + 3 * (it + 1)) (21458 + 64 * (it + 1)) z h 935 [some (.ref b), some (.ref x), some (.ref (x + 23)), some (.ref (x + 42)), some (.int (nI (6 * it))), none, none] []) : V X (43 + 3 * it) (21458 + 64 * it) z h 680 [some (.ref b), some (.ref x), some (.ref (x + 23)), some (.ref (x + 42)), some (.int (nI (6 * it))), none, none] [] := by
  obtain ⟨mk, sa, L, M, F, W, fn, fv, fs, tn, tv, ts, kd, p, q, bf, len, ta, sp, f1, f2, f3, ks, ff, fg, co, th, fm, cm, be, dz, mn, st, un, uv, gn, gv, on, tw, bm, g1, g2, g3, sv, fa, fy, bs, cf, R⟩ := R
  have hx0 := R.1.1.1
  have hX := C.1
  have hL1 := C.2.2.2.2.2.1
  have hL2 := C.2.2.2.2.2.2.1
  refine V_aload_n (pc' := 681) hX dL_law_680 rfl rfl ?_
  refine V_callV (nA := 0) (pc' := 684) (k' := 43 + 3 * it) (n' := 21458 + 64 * it) (As := []) (rest := []) hX dL_law_681 (sim_pairs R ) hx0 rfl wM_L_86 wI_X7_pairs wL_X7_pairs wN_X7 wC_X7_pairs rfl hy_X7_pairs rfl (Nat.le_of_ble_eq_true rfl) (by decide) (by omega) rfl rfl (by omega) rfl (by omega) rfl ?_
  rintro _ z1 h1 ⟨wr, fs1, rfl, he1, hC2⟩
  refine V_aload_n (pc' := 685) hX dL_law_684 rfl rfl ?_
  refine V_callV (nA := 0) (pc' := 688) (k' := 43 + 3 * it) (n' := 21458 + 64 * it) (As := []) (rest := [.int wr]) hX dL_law_685 hC2 he1 rfl wM_L_89 wI_X8_pairs wL_X8_pairs wN_X8 wC_X8_pairs rfl hy_X8_pairs rfl (Nat.le_of_ble_eq_true rfl) (by decide) (by omega) rfl rfl (by omega) rfl (by omega) rfl ?_
  rintro _ z2 h2 ⟨rfl, -, R2⟩
  refine V_icmp_eq (pt := 935) (pc' := 691) hX dL_law_688 rfl rfl (fun _ => ?_) (fun e => absurd rfl e)
  exact V.widen (by omega) (by omega) (nx z2 h2 R2)
theorem law_c17 {X : CX} {b L : Nat} {xs : Nat → Int32} {it x : Nat} (C : CTX X b L xs it x) {z : Nat} {h : AH} (R : REL X.G h z x) (nx : ∀ (z : Nat) (h : AH), REL X.G h z x → V X (43 + 3 * (it + 1)) (21458 + 64 * (it + 1)) z h 935 [some (.ref b), some (.ref x), some (.ref (x + 23)), some (.ref (x + 42)), some (.int (nI (6 * it))), none, none] []) : V X (43 + 3 * it) (21458 + 64 * it) z h 761 [some (.ref b), some (.ref x), some (.ref (x + 23)), some (.ref (x + 42)), some (.int (nI (6 * it))), none, none] [] := by
  obtain ⟨mk, sa, L, M, F, W, fn, fv, fs, tn, tv, ts, kd, p, q, bf, len, ta, sp, f1, f2, f3, ks, ff, fg, co, th, fm, cm, be, dz, mn, st, un, uv, gn, gv, on, tw, bm, g1, g2, g3, sv, fa, fy, bs, cf, R⟩ := R
  have hx0 := R.1.1.1
  have hX := C.1
  have hL1 := C.2.2.2.2.2.1
  have hL2 := C.2.2.2.2.2.2.1
  refine V_aload_n (pc' := 762) hX dL_law_761 rfl rfl ?_
  refine V_aload_n (pc' := 763) hX dL_law_762 rfl rfl ?_
  refine V_iload (pc' := 765) hX dL_law_763 rfl rfl ?_
  refine V_iconst (v := nI 1) (pc' := 766) hX dL_law_765 rfl rfl ?_
  refine V_iaddN (pc' := 767) hX dL_law_766 rfl ?_
  refine V_scr (j := 6 * it + 1) (pc' := 768) C (by omega) hX dL_law_767 rfl ?_
  refine V_callV (nA := 1) (pc' := 771) (k' := 43 + 3 * it) (n' := 21458 + 64 * it) (As := [.int (xs (6 * it + 1))]) (rest := []) hX dL_law_768 (sim_top R (xs (6 * it + 1))) hx0 rfl wM_L_99 wI_X7_top wL_X7_top wN_X7 wC_X7_top rfl hy_X7_top rfl (Nat.le_of_ble_eq_true rfl) (by decide) (by omega) rfl rfl (by omega) rfl (by omega) rfl ?_
  rintro _ z1 h1 ⟨wr, fs1, rfl, he1, hC2⟩
  refine V_aload_n (pc' := 772) hX dL_law_771 rfl rfl ?_
  refine V_aload_n (pc' := 773) hX dL_law_772 rfl rfl ?_
  refine V_iload (pc' := 775) hX dL_law_773 rfl rfl ?_
  refine V_iconst (v := nI 1) (pc' := 776) hX dL_law_775 rfl rfl ?_
  refine V_iaddN (pc' := 777) hX dL_law_776 rfl ?_
  refine V_scr (j := 6 * it + 1) (pc' := 778) C (by omega) hX dL_law_777 rfl ?_
  refine V_callV (nA := 1) (pc' := 781) (k' := 43 + 3 * it) (n' := 21458 + 64 * it) (As := [.int (xs (6 * it + 1))]) (rest := [.int wr]) hX dL_law_778 hC2 he1 rfl wM_L_102 wI_X8_top wL_X8_top wN_X8 wC_X8_top rfl hy_X8_top rfl (Nat.le_of_ble_eq_true rfl) (by decide) (by omega) rfl rfl (by omega) rfl (by omega) rfl ?_
  rintro _ z2 h2 ⟨rfl, -, R2⟩
  refine V_icmp_eq (pt := 935) (pc' := 784) hX dL_law_781 rfl rfl (fun _ => ?_) (fun e => absurd rfl e)
  exact V.widen (by omega) (by omega) (nx z2 h2 R2)
theorem law_c18 {X : CX} {b L : Nat} {xs : Nat → Int32} {it x : Nat} (C : CTX X b L xs it x) {z : Nat} {h : AH} (R : REL X.G h z x) (nx : ∀ (z : Nat) (h : AH), REL X.G h z x → V X (43 + 3 * (it + 1)) (21458 + 64 * (it + 1)) z h 935 [some (.ref b), some (.ref x), some (.ref (x + 23)), some (.ref (x + 42)), some (.int (nI (6 * it))), none, none] []) : V X (43 + 3 * it) (21458 + 64 * it) z h 786 [some (.ref b), some (.ref x), some (.ref (x + 23)), some (.ref (x + 42)), some (.int (nI (6 * it))), none, none] [] := by
  obtain ⟨mk, sa, L, M, F, W, fn, fv, fs, tn, tv, ts, kd, p, q, bf, len, ta, sp, f1, f2, f3, ks, ff, fg, co, th, fm, cm, be, dz, mn, st, un, uv, gn, gv, on, tw, bm, g1, g2, g3, sv, fa, fy, bs, cf, R⟩ := R
  have hx0 := R.1.1.1
  have hX := C.1
  have hL1 := C.2.2.2.2.2.1
  have hL2 := C.2.2.2.2.2.2.1
  refine V_aload_n (pc' := 787) hX dL_law_786 rfl rfl ?_
  refine V_aload_n (pc' := 788) hX dL_law_787 rfl rfl ?_
  refine V_iload (pc' := 790) hX dL_law_788 rfl rfl ?_
  refine V_iconst (v := nI 1) (pc' := 791) hX dL_law_790 rfl rfl ?_
  refine V_iaddN (pc' := 792) hX dL_law_791 rfl ?_
  refine V_scr (j := 6 * it + 1) (pc' := 793) C (by omega) hX dL_law_792 rfl ?_
  refine V_callV (nA := 1) (pc' := 796) (k' := 43 + 3 * it) (n' := 21458 + 64 * it) (As := [.int (xs (6 * it + 1))]) (rest := []) hX dL_law_793 (sim_core R (xs (6 * it + 1))) hx0 rfl wM_L_103 wI_X7_core wL_X7_core wN_X7 wC_X7_core rfl hy_X7_core rfl (Nat.le_of_ble_eq_true rfl) (by decide) (by omega) rfl rfl (by omega) rfl (by omega) rfl ?_
  rintro _ z1 h1 ⟨wr, fs1, rfl, he1, hC2⟩
  refine V_aload_n (pc' := 797) hX dL_law_796 rfl rfl ?_
  refine V_aload_n (pc' := 798) hX dL_law_797 rfl rfl ?_
  refine V_iload (pc' := 800) hX dL_law_798 rfl rfl ?_
  refine V_iconst (v := nI 1) (pc' := 801) hX dL_law_800 rfl rfl ?_
  refine V_iaddN (pc' := 802) hX dL_law_801 rfl ?_
  refine V_scr (j := 6 * it + 1) (pc' := 803) C (by omega) hX dL_law_802 rfl ?_
  refine V_callV (nA := 1) (pc' := 806) (k' := 43 + 3 * it) (n' := 21458 + 64 * it) (As := [.int (xs (6 * it + 1))]) (rest := [.int wr]) hX dL_law_803 hC2 he1 rfl wM_L_106 wI_X8_core wL_X8_core wN_X8 wC_X8_core rfl hy_X8_core rfl (Nat.le_of_ble_eq_true rfl) (by decide) (by omega) rfl rfl (by omega) rfl (by omega) rfl ?_
  rintro _ z2 h2 ⟨rfl, -, R2⟩
  refine V_icmp_eq (pt := 935) (pc' := 809) hX dL_law_806 rfl rfl (fun _ => ?_) (fun e => absurd rfl e)
  exact V.widen (by omega) (by omega) (nx z2 h2 R2)
theorem law_c19 {X : CX} {b L : Nat} {xs : Nat → Int32} {it x : Nat} (C : CTX X b L xs it x) {z : Nat} {h : AH} (R : REL X.G h z x) (nx : ∀ (z : Nat) (h : AH), REL X.G h z x → V X (43 + 3 * (it + 1)) (21458 + 64 * (it + 1)) z h 935 [some (.ref b), some (.ref x), some (.ref (x + 23)), some (.ref (x + 42)), some (.int (nI (6 * it))), none, none] []) : V X (43 + 3 * it) (21458 + 64 * it) z h 811 [some (.ref b), some (.ref x), some (.ref (x + 23)), some (.ref (x + 42)), some (.int (nI (6 * it))), none, none] [] := by
  obtain ⟨mk, sa, L, M, F, W, fn, fv, fs, tn, tv, ts, kd, p, q, bf, len, ta, sp, f1, f2, f3, ks, ff, fg, co, th, fm, cm, be, dz, mn, st, un, uv, gn, gv, on, tw, bm, g1, g2, g3, sv, fa, fy, bs, cf, R⟩ := R
  have hx0 := R.1.1.1
  have hX := C.1
  have hL1 := C.2.2.2.2.2.1
  have hL2 := C.2.2.2.2.2.2.1
  refine V_aload_n (pc' := 812) hX dL_law_811 rfl rfl ?_
  refine V_aload_n (pc' := 813) hX dL_law_812 rfl rfl ?_
  refine V_iload (pc' := 815) hX dL_law_813 rfl rfl ?_
  refine V_iconst (v := nI 1) (pc' := 816) hX dL_law_815 rfl rfl ?_
  refine V_iaddN (pc' := 817) hX dL_law_816 rfl ?_
  refine V_scr (j := 6 * it + 1) (pc' := 818) C (by omega) hX dL_law_817 rfl ?_
  refine V_callV (nA := 1) (pc' := 821) (k' := 43 + 3 * it) (n' := 21458 + 64 * it) (As := [.int (xs (6 * it + 1))]) (rest := []) hX dL_law_818 (sim_member R (xs (6 * it + 1))) hx0 rfl wM_L_107 wI_X7_member wL_X7_member wN_X7 wC_X7_member rfl hy_X7_member rfl (Nat.le_of_ble_eq_true rfl) (by decide) (by omega) rfl rfl (by omega) rfl (by omega) rfl ?_
  rintro _ z1 h1 ⟨wr, fs1, rfl, he1, hC2⟩
  refine V_aload_n (pc' := 822) hX dL_law_821 rfl rfl ?_
  refine V_aload_n (pc' := 823) hX dL_law_822 rfl rfl ?_
  refine V_iload (pc' := 825) hX dL_law_823 rfl rfl ?_
  refine V_iconst (v := nI 1) (pc' := 826) hX dL_law_825 rfl rfl ?_
  refine V_iaddN (pc' := 827) hX dL_law_826 rfl ?_
  refine V_scr (j := 6 * it + 1) (pc' := 828) C (by omega) hX dL_law_827 rfl ?_
  refine V_callV (nA := 1) (pc' := 831) (k' := 43 + 3 * it) (n' := 21458 + 64 * it) (As := [.int (xs (6 * it + 1))]) (rest := [.int wr]) hX dL_law_828 hC2 he1 rfl wM_L_110 wI_X8_member wL_X8_member wN_X8 wC_X8_member rfl hy_X8_member rfl (Nat.le_of_ble_eq_true rfl) (by decide) (by omega) rfl rfl (by omega) rfl (by omega) rfl ?_
  rintro _ z2 h2 ⟨rfl, -, R2⟩
  refine V_icmp_eq (pt := 935) (pc' := 834) hX dL_law_831 rfl rfl (fun _ => ?_) (fun e => absurd rfl e)
  exact V.widen (by omega) (by omega) (nx z2 h2 R2)
theorem law_c20 {X : CX} {b L : Nat} {xs : Nat → Int32} {it x : Nat} (C : CTX X b L xs it x) {z : Nat} {h : AH} (R : REL X.G h z x) (nx : ∀ (z : Nat) (h : AH), REL X.G h z x → V X (43 + 3 * (it + 1)) (21458 + 64 * (it + 1)) z h 935 [some (.ref b), some (.ref x), some (.ref (x + 23)), some (.ref (x + 42)), some (.int (nI (6 * it))), none, none] []) : V X (43 + 3 * it) (21458 + 64 * it) z h 836 [some (.ref b), some (.ref x), some (.ref (x + 23)), some (.ref (x + 42)), some (.int (nI (6 * it))), none, none] [] := by
  obtain ⟨mk, sa, L, M, F, W, fn, fv, fs, tn, tv, ts, kd, p, q, bf, len, ta, sp, f1, f2, f3, ks, ff, fg, co, th, fm, cm, be, dz, mn, st, un, uv, gn, gv, on, tw, bm, g1, g2, g3, sv, fa, fy, bs, cf, R⟩ := R
  have hx0 := R.1.1.1
  have hX := C.1
  have hL1 := C.2.2.2.2.2.1
  have hL2 := C.2.2.2.2.2.2.1
  refine V_aload_n (pc' := 837) hX dL_law_836 rfl rfl ?_
  refine V_aload_n (pc' := 838) hX dL_law_837 rfl rfl ?_
  refine V_iload (pc' := 840) hX dL_law_838 rfl rfl ?_
  refine V_iconst (v := nI 1) (pc' := 841) hX dL_law_840 rfl rfl ?_
  refine V_iaddN (pc' := 842) hX dL_law_841 rfl ?_
  refine V_scr (j := 6 * it + 1) (pc' := 843) C (by omega) hX dL_law_842 rfl ?_
  refine V_aload_n (pc' := 844) hX dL_law_843 rfl rfl ?_
  refine V_iload (pc' := 846) hX dL_law_844 rfl rfl ?_
  refine V_iconst (v := nI 2) (pc' := 847) hX dL_law_846 rfl rfl ?_
  refine V_iaddN (pc' := 848) hX dL_law_847 rfl ?_
  refine V_scr (j := 6 * it + 2) (pc' := 849) C (by omega) hX dL_law_848 rfl ?_
  refine V_callV (nA := 2) (pc' := 852) (k' := 43 + 3 * it) (n' := 21458 + 64 * it) (As := [.int (xs (6 * it + 1)), .int (xs (6 * it + 2))]) (rest := []) hX dL_law_849 (sim_chain R (xs (6 * it + 1)) (xs (6 * it + 2))) hx0 rfl wM_L_111 wI_X7_chain wL_X7_chain wN_X7 wC_X7_chain rfl hy_X7_chain rfl (Nat.le_of_ble_eq_true rfl) (by decide) (by omega) rfl rfl (by omega) rfl (by omega) rfl ?_
  rintro _ z1 h1 ⟨wr, fs1, rfl, he1, hC2⟩
  refine V_aload_n (pc' := 853) hX dL_law_852 rfl rfl ?_
  refine V_aload_n (pc' := 854) hX dL_law_853 rfl rfl ?_
  refine V_iload (pc' := 856) hX dL_law_854 rfl rfl ?_
  refine V_iconst (v := nI 1) (pc' := 857) hX dL_law_856 rfl rfl ?_
  refine V_iaddN (pc' := 858) hX dL_law_857 rfl ?_
  refine V_scr (j := 6 * it + 1) (pc' := 859) C (by omega) hX dL_law_858 rfl ?_
  refine V_aload_n (pc' := 860) hX dL_law_859 rfl rfl ?_
  refine V_iload (pc' := 862) hX dL_law_860 rfl rfl ?_
  refine V_iconst (v := nI 2) (pc' := 863) hX dL_law_862 rfl rfl ?_
  refine V_iaddN (pc' := 864) hX dL_law_863 rfl ?_
  refine V_scr (j := 6 * it + 2) (pc' := 865) C (by omega) hX dL_law_864 rfl ?_
  refine V_callV (nA := 2) (pc' := 868) (k' := 43 + 3 * it) (n' := 21458 + 64 * it) (As := [.int (xs (6 * it + 1)), .int (xs (6 * it + 2))]) (rest := [.int wr]) hX dL_law_865 hC2 he1 rfl wM_L_114 wI_X8_chain wL_X8_chain wN_X8 wC_X8_chain rfl hy_X8_chain rfl (Nat.le_of_ble_eq_true rfl) (by decide) (by omega) rfl rfl (by omega) rfl (by omega) rfl ?_
  rintro _ z2 h2 ⟨rfl, -, R2⟩
  refine V_icmp_eq (pt := 935) (pc' := 871) hX dL_law_868 rfl rfl (fun _ => ?_) (fun e => absurd rfl e)
  exact V.widen (by omega) (by omega) (nx z2 h2 R2)
theorem law_c21 {X : CX} {b L : Nat} {xs : Nat → Int32} {it x : Nat} (C : CTX X b L xs it x) {z : Nat} {h : AH} (R : REL X.G h z x) (nx : ∀ (z : Nat) (h : AH), REL X.G h z x → V X (43 + 3 * (it + 1)) (21458 + 64 * (it + 1)) z h 935 [some (.ref b), some (.ref x), some (.ref (x + 23)), some (.ref (x + 42)), some (.int (nI (6 * it))), none, none] []) : V X (43 + 3 * it) (21458 + 64 * it) z h 873 [some (.ref b), some (.ref x), some (.ref (x + 23)), some (.ref (x + 42)), some (.int (nI (6 * it))), none, none] [] := by
  obtain ⟨mk, sa, L, M, F, W, fn, fv, fs, tn, tv, ts, kd, p, q, bf, len, ta, sp, f1, f2, f3, ks, ff, fg, co, th, fm, cm, be, dz, mn, st, un, uv, gn, gv, on, tw, bm, g1, g2, g3, sv, fa, fy, bs, cf, R⟩ := R
  have hx0 := R.1.1.1
  have hX := C.1
  have hL1 := C.2.2.2.2.2.1
  have hL2 := C.2.2.2.2.2.2.1
  refine V_aload_n (pc' := 874) hX dL_law_873 rfl rfl ?_
  refine V_aload_n (pc' := 875) hX dL_law_874 rfl rfl ?_
  refine V_iload (pc' := 877) hX dL_law_875 rfl rfl ?_
  refine V_iconst (v := nI 1) (pc' := 878) hX dL_law_877 rfl rfl ?_
  refine V_iaddN (pc' := 879) hX dL_law_878 rfl ?_
  refine V_scr (j := 6 * it + 1) (pc' := 880) C (by omega) hX dL_law_879 rfl ?_
  refine V_aload_n (pc' := 881) hX dL_law_880 rfl rfl ?_
  refine V_iload (pc' := 883) hX dL_law_881 rfl rfl ?_
  refine V_iconst (v := nI 2) (pc' := 884) hX dL_law_883 rfl rfl ?_
  refine V_iaddN (pc' := 885) hX dL_law_884 rfl ?_
  refine V_scr (j := 6 * it + 2) (pc' := 886) C (by omega) hX dL_law_885 rfl ?_
  refine V_callV (nA := 2) (pc' := 889) (k' := 43 + 3 * it) (n' := 21458 + 64 * it) (As := [.int (xs (6 * it + 1)), .int (xs (6 * it + 2))]) (rest := []) hX dL_law_886 (sim_next R (xs (6 * it + 1)) (xs (6 * it + 2))) hx0 rfl wM_L_115 wI_X7_next wL_X7_next wN_X7 wC_X7_next rfl hy_X7_next rfl (Nat.le_of_ble_eq_true rfl) (by decide) (by omega) rfl rfl (by omega) rfl (by omega) rfl ?_
  rintro _ z1 h1 ⟨wr, fs1, rfl, he1, hC2⟩
  refine V_aload_n (pc' := 890) hX dL_law_889 rfl rfl ?_
  refine V_aload_n (pc' := 891) hX dL_law_890 rfl rfl ?_
  refine V_iload (pc' := 893) hX dL_law_891 rfl rfl ?_
  refine V_iconst (v := nI 1) (pc' := 894) hX dL_law_893 rfl rfl ?_
  refine V_iaddN (pc' := 895) hX dL_law_894 rfl ?_
  refine V_scr (j := 6 * it + 1) (pc' := 896) C (by omega) hX dL_law_895 rfl ?_
  refine V_aload_n (pc' := 897) hX dL_law_896 rfl rfl ?_
  refine V_iload (pc' := 899) hX dL_law_897 rfl rfl ?_
  refine V_iconst (v := nI 2) (pc' := 900) hX dL_law_899 rfl rfl ?_
  refine V_iaddN (pc' := 901) hX dL_law_900 rfl ?_
  refine V_scr (j := 6 * it + 2) (pc' := 902) C (by omega) hX dL_law_901 rfl ?_
  refine V_callV (nA := 2) (pc' := 905) (k' := 43 + 3 * it) (n' := 21458 + 64 * it) (As := [.int (xs (6 * it + 1)), .int (xs (6 * it + 2))]) (rest := [.int wr]) hX dL_law_902 hC2 he1 rfl wM_L_118 wI_X8_next wL_X8_next wN_X8 wC_X8_next rfl hy_X8_next rfl (Nat.le_of_ble_eq_true rfl) (by decide) (by omega) rfl rfl (by omega) rfl (by omega) rfl ?_
  rintro _ z2 h2 ⟨rfl, -, R2⟩
  refine V_icmp_eq (pt := 935) (pc' := 908) hX dL_law_905 rfl rfl (fun _ => ?_) (fun e => absurd rfl e)
  exact V.widen (by omega) (by omega) (nx z2 h2 R2)
theorem law_c22 {X : CX} {b L : Nat} {xs : Nat → Int32} {it x : Nat} (C : CTX X b L xs it x) {z : Nat} {h : AH} (R : REL X.G h z x) (nx : ∀ (z : Nat) (h : AH), REL X.G h z x → V X (43 + 3 * (it + 1)) (21458 + 64 * (it + 1)) z h 935 [some (.ref b), some (.ref x), some (.ref (x + 23)), some (.ref (x + 42)), some (.int (nI (6 * it))), none, none] []) : V X (43 + 3 * it) (21458 + 64 * it) z h 910 [some (.ref b), some (.ref x), some (.ref (x + 23)), some (.ref (x + 42)), some (.int (nI (6 * it))), none, none] [] := by
  obtain ⟨mk, sa, L, M, F, W, fn, fv, fs, tn, tv, ts, kd, p, q, bf, len, ta, sp, f1, f2, f3, ks, ff, fg, co, th, fm, cm, be, dz, mn, st, un, uv, gn, gv, on, tw, bm, g1, g2, g3, sv, fa, fy, bs, cf, R⟩ := R
  have hx0 := R.1.1.1
  have hX := C.1
  have hL1 := C.2.2.2.2.2.1
  have hL2 := C.2.2.2.2.2.2.1
  refine V_aload_n (pc' := 911) hX dL_law_910 rfl rfl ?_
  refine V_aload_n (pc' := 912) hX dL_law_911 rfl rfl ?_
  refine V_iload (pc' := 914) hX dL_law_912 rfl rfl ?_
  refine V_iconst (v := nI 1) (pc' := 915) hX dL_law_914 rfl rfl ?_
  refine V_iaddN (pc' := 916) hX dL_law_915 rfl ?_
  refine V_scr (j := 6 * it + 1) (pc' := 917) C (by omega) hX dL_law_916 rfl ?_
  refine V_callV (nA := 1) (pc' := 920) (k' := 43 + 3 * it) (n' := 21458 + 64 * it) (As := [.int (xs (6 * it + 1))]) (rest := []) hX dL_law_917 (sim_count R (xs (6 * it + 1))) hx0 rfl wM_L_119 wI_X7_count wL_X7_count wN_X7 wC_X7_count rfl hy_X7_count rfl (Nat.le_of_ble_eq_true rfl) (by decide) (by omega) rfl rfl (by omega) rfl (by omega) rfl ?_
  rintro _ z1 h1 ⟨wr, fs1, rfl, he1, hC2⟩
  refine V_aload_n (pc' := 921) hX dL_law_920 rfl rfl ?_
  refine V_aload_n (pc' := 922) hX dL_law_921 rfl rfl ?_
  refine V_iload (pc' := 924) hX dL_law_922 rfl rfl ?_
  refine V_iconst (v := nI 1) (pc' := 925) hX dL_law_924 rfl rfl ?_
  refine V_iaddN (pc' := 926) hX dL_law_925 rfl ?_
  refine V_scr (j := 6 * it + 1) (pc' := 927) C (by omega) hX dL_law_926 rfl ?_
  refine V_callV (nA := 1) (pc' := 930) (k' := 43 + 3 * it) (n' := 21458 + 64 * it) (As := [.int (xs (6 * it + 1))]) (rest := [.int wr]) hX dL_law_927 hC2 he1 rfl wM_L_122 wI_X8_count wL_X8_count wN_X8 wC_X8_count rfl hy_X8_count rfl (Nat.le_of_ble_eq_true rfl) (by decide) (by omega) rfl rfl (by omega) rfl (by omega) rfl ?_
  rintro _ z2 h2 ⟨rfl, -, R2⟩
  refine V_icmp_eq (pt := 935) (pc' := 933) hX dL_law_930 rfl rfl (fun _ => ?_) (fun e => absurd rfl e)
  exact V.widen (by omega) (by omega) (nx z2 h2 R2)
