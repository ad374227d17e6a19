theorem V.gen {X : CX} {k n z pc : Nat} {hh : AH} {lv : List (Option Value)} {st : List Value} (kk : ∀ h', h' = hh → V X k n z h' pc lv st) : V X k n z hh pc lv st := kk hh rfl
theorem fr.of_up {h h' : AH} {a : Nat} {e : va_E} (eh : h' = hup h a e) : fr a (a + 1) h h' := by rw [eh]; exact fr.up fr.rf (by omega) (by omega)
theorem up_at {h h' : AH} {a : Nat} {e : va_E} (eh : h' = hup h a e) : h' a = some e := by rw [eh]; exact hup_s
/-- the heap has grown behind it -/
theorem psAt.grow {G : Gd} {h : AH} {z x : Nat} {mk : Nat} {sa : Nat → Option Nat} {L : Nat → List Nat} {Fr : Nat → Nat → Nat} {Wr : Nat → Nat → Nat} {fn : Nat → Nat} {fv : Nat → Nat} {fs : Nat} {tn : Nat → Nat} {tv : Nat → Nat} {ts : Nat} {kd : Nat} {p : Nat} {q : Nat} {bf : Nat → Nat} {len : Nat} {ta : Nat → Nat} {sp : Nat} {f1 : Nat → Nat} {f2 : Nat → Nat} {f3 : Nat → Nat} {ks : Nat} {ff : Nat → Nat} {fg : Nat} {co : Nat} {h' : AH} {z' hi : Nat} (hP : psAt G h z x mk sa L Fr Wr fn fv fs tn tv ts kd p q bf len ta sp f1 f2 f3 ks ff fg co) (hf : fr z hi h h') (hz : z ≤ z') : psAt G h' z' x mk sa L Fr Wr fn fv fs tn tv ts kd p q bf len ta sp f1 f2 f3 ks ff fg co := by
  obtain ⟨⟨hx, hsa⟩, ⟨hF, hFO⟩, ⟨hT, hTO⟩, ⟨hm, hM⟩, ⟨⟨nf, hp⟩, hPO⟩, ⟨s0, s1, s2, ho⟩, ⟨bg, hbg⟩, hta, ⟨⟨ab, bw, hk⟩, hks⟩, ⟨hn, hnO⟩, hS, hmk, hnone, hxz, hco⟩ := hP
  exact ⟨⟨(hf _ (by omega)).trans hx, (hf _ (by omega)).trans hsa⟩, ⟨hF.kept hf (by omega), hFO⟩, ⟨hT.kept hf (by omega), hTO⟩, ⟨(hf _ (by omega)).trans hm, hM⟩, ⟨⟨nf, hp.kept hf (by omega)⟩, hPO⟩, ⟨s0, s1, s2, (hf _ (by omega)).trans ho⟩, ⟨bg, (hf _ (by omega)).trans hbg⟩, (hf _ (by omega)).trans hta, ⟨⟨ab, bw, hk.kept hf (by omega)⟩, hks⟩, ⟨hn.kept hf (by omega), hnO⟩, ⟨fun r q0 hq => ⟨(hS.1 r q0 hq).1.kept hf (by have := (hS.1 r q0 hq).2; omega), by have := (hS.1 r q0 hq).2; omega⟩, hS.2⟩, ⟨hmk, hnone, by omega, hco⟩⟩
/-- a new record -/
theorem psAt.uR {G : Gd} {h : AH} {z x : Nat} {mk : Nat} {sa : Nat → Option Nat} {L : Nat → List Nat} {Fr : Nat → Nat → Nat} {Wr : Nat → Nat → Nat} {fn : Nat → Nat} {fv : Nat → Nat} {fs : Nat} {tn : Nat → Nat} {tv : Nat → Nat} {ts : Nat} {kd : Nat} {p : Nat} {q : Nat} {bf : Nat → Nat} {len : Nat} {ta : Nat → Nat} {sp : Nat} {f1 : Nat → Nat} {f2 : Nat → Nat} {f3 : Nat → Nat} {ks : Nat} {ff : Nat → Nat} {fg : Nat} {co : Nat} {h' : AH} {z0 : Nat} (a : h' x = some (oO 7 [.ref (x + 1), .int (nI (mk + 1)), .ref (x + 2), .ref (x + 5), .ref (x + 8), .ref (x + 9), .ref (x + 12), .ref (x + 13), .ref (x + 14), .int (nI sp), .ref (x + 15), .ref (x + 21), .long (lN co)])) (a2 : h' (x + 1) = some (oN G 60 (va_up sa mk (some z0)))) (hN : nsR G h z0 (Fr mk) (Wr mk) []) (hz0 : x + 23 ≤ z0 ∧ z0 + 3 ≤ z) (hdis : ∀ r q, sa r = some q → q + 3 ≤ z0) (hlt : mk < 60) (hP : psAt G h z x mk sa L Fr Wr fn fv fs tn tv ts kd p q bf len ta sp f1 f2 f3 ks ff fg co) (hf : fr x (x + 2) h h') : psAt G h' z x (mk + 1) (va_up sa mk (some z0)) (va_up L mk []) Fr Wr fn fv fs tn tv ts kd p q bf len ta sp f1 f2 f3 ks ff fg co := by
  obtain ⟨⟨hx, hsa⟩, ⟨hF, hFO⟩, ⟨hT, hTO⟩, ⟨hm, hM⟩, ⟨⟨nf, hp⟩, hPO⟩, ⟨s0, s1, s2, ho⟩, ⟨bg, hbg⟩, hta, ⟨⟨ab, bw, hk⟩, hks⟩, ⟨hn, hnO⟩, hS, hmk, hnone, hxz, hco⟩ := hP
  exact ⟨⟨a, a2⟩, ⟨hF.kept hf (by omega), hFO⟩, ⟨hT.kept hf (by omega), hTO⟩, ⟨(hf _ (by omega)).trans hm, hM⟩, ⟨⟨nf, hp.kept hf (by omega)⟩, hPO⟩, ⟨s0, s1, s2, (hf _ (by omega)).trans ho⟩, ⟨bg, (hf _ (by omega)).trans hbg⟩, (hf _ (by omega)).trans hta, ⟨⟨ab, bw, hk.kept hf (by omega)⟩, hks⟩, ⟨hn.kept hf (by omega), hnO⟩, ⟨fun r q0 hq => by
      unfold va_up at hq ⊢
      by_cases e : r = mk
      · subst e
        rw [if_pos rfl] at hq
        cases hq
        rw [if_pos rfl]
        exact ⟨hN.kept hf (by omega), hz0.1, hz0.2⟩
      · rw [if_neg e] at hq
        rw [if_neg e]
        exact (hS.kept hf (by omega)).1 r q0 hq, fun r s q1 q2 e1 e2 hne => by
      unfold va_up at e1 e2
      by_cases er : r = mk
      · rw [if_pos er] at e1
        cases e1
        rw [if_neg (fun e => hne (er.trans e.symm))] at e2
        exact Or.inr (hdis s q2 e2)
      · rw [if_neg er] at e1
        by_cases es : s = mk
        · rw [if_pos es] at e2
          cases e2
          exact Or.inl (hdis r q1 e1)
        · rw [if_neg es] at e2
          exact hS.2 r s q1 q2 e1 e2 hne⟩, ⟨by omega, fun r hr => by
      unfold va_up
      rw [if_neg (by omega)]
      exact hnone r (by omega), hxz, hco⟩⟩
theorem frO.of2 {x z : Nat} {sa : Nat → Option Nat} {h h1 h2 : AH} (hf : fr x (x + 2) h1 h2) (hg : ∀ q, q < z → h1 q = h q) : frO x z sa h h2 := fun q a b => (hf q (by
  rcases Nat.lt_or_ge q x with r | r
  · exact Or.inl r
  · exact Or.inr (Nat.le_of_not_lt fun r2 => b (Or.inl ⟨r, by omega⟩)))).trans (hg q a)
theorem nsR.nil {G : Gd} {h : AH} {q : Nat} {F wt : Nat → Nat} {kf wf : Nat → Nat} (hN : nsAt G h q kf wf 0 0) : nsR G h q F wt [] := ⟨(fun v hv => by cases hv), kf, wf, 0, hN, ⟨by simp, fun j hj => by simp at hj, fun i j _ hj => by simp at hj, fun j hj => by simp at hj, rfl⟩, fun j hj => by simp at hj, fun j hj => by simp at hj⟩
theorem bl_drop {n : Nat} (hn : n < 2 ^ 60) (h0 : n ≠ 0) : ∃ i, i < 60 ∧ bl n = i :: bl (n &&& (n - 1)) ∧ n &&& (n - 1) < 2 ^ 60 := by
  obtain ⟨i, m, e⟩ := low_form n (by omega)
  have hi : i < 60 := bit_lt hn (by rw [e, odd_bit, if_neg (by omega), if_pos rfl])
  refine ⟨i, hi, ?_, Nat.lt_of_le_of_lt Nat.and_le_left hn⟩
  have e2 : n &&& (n - 1) = 2 ^ i * (2 * m) := by rw [e]; exact low_and i m
  rw [e2, e]
  exact bl_low i m (by rw [← e]; exact hn)
theorem leastP_bl {n : Nat} {y : Int32} (hn : n < 2 ^ 60) (h : leastP n y) : (bl n = [] ∧ y = -1) ∨ ∃ i t, bl n = i :: t ∧ y = nI i := by
  rcases h with ⟨rfl, e⟩ | ⟨i, m, e, -, rfl⟩
  · exact Or.inl ⟨bl_0, e⟩
  · right
    rw [e]
    exact ⟨i, _, bl_low i m (by rw [← e]; exact hn), rfl⟩
