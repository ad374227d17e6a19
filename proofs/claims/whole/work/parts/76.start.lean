/-! the start: what the tables give -/
theorem arrT {s : State} {args : Array Value} {ty : FieldType} (h : (Cond.arrayClass ty).before args s = true) : ∃ cA, ArrOfT s cA ty ∧ s.vm.findClass ("[" ++ ty.toString) = some cA := by
  obtain ⟨c, k, comp, h1, h2, h3⟩ := Cond.arrayClass_spec h
  exact ⟨c, fun n z => ⟨fun k h => (by cases h), k, h2, comp, h3⟩, h1⟩
theorem nest_in : (∀ w ∈ NNf, w ∈ lw_tbl ∧ w.onTables = true) ∧ ∀ w ∈ NNm, w ∈ lw_tbl ∧ w.onTables = true := by decide +kernel
theorem over_in : Cond.arrayOver (.object "PairSieve$NumberSet") ∈ lw_tbl := by decide +kernel
theorem KK_start {s : State} {args : Array Value} (hts : ∀ w ∈ lw_tbl, w.before args s = true) : ∃ G : Gd, KK G s := by
  have hg : ∀ w ∈ GG, w.before args s = true := fun w hw => hts w (List.mem_filter.mp hw).1
  have hnw : ∀ w : Cond, w ∈ lw_tbl ∧ w.onTables = true → va_Nw w s := fun w hw => by
    have h1 := hts w hw.1
    have h2 := Cond.onTables_vm (A := args) (A' := #[]) (U := s) (U' := s) s.vm w hw.2
    rw [State.setVm_self] at h2
    exact h2.symm.trans h1
  obtain ⟨c0, i0, hK0⟩ := u_known (C := RX0) (T := TX0) (N := 6) (n := 6) hg inX0 (hg _ wB_X0)
  obtain ⟨c1, i1, hK1⟩ := u_known (C := RX1) (T := TX1) (N := 3) (n := 3) hg inX1 (hg _ wB_X1)
  obtain ⟨c2, i2, hK2⟩ := u_known (C := RX2) (T := TX2) (N := 2) (n := 2) hg inX2 (hg _ wB_X2)
  obtain ⟨c3, i3, hK3⟩ := u_known (C := RX3) (T := TX3) (N := 4) (n := 4) hg inX3 (hg _ wB_X3)
  obtain ⟨c4, i4, hK4⟩ := u_known (C := RX4) (T := TX4) (N := 3) (n := 3) hg inX4 (hg _ wB_X4)
  obtain ⟨c5, i5, hK5⟩ := u_known (C := RX5) (T := TX5) (N := 3) (n := 3) hg inX5 (hg _ wB_X5)
  obtain ⟨c6, i6, hK6⟩ := u_known (C := RX6) (T := TX6) (N := 3) (n := 3) hg inX6 (hg _ wB_X6)
  obtain ⟨c7, i7, hK7⟩ := u_known (C := RX7) (T := TX7) (N := 13) (n := 13) hg inX7 (hg _ wB_X7)
  obtain ⟨c8, i8, hK8⟩ := u_known (C := RX8) (T := TX8) (N := 30) (n := 30) hg inX8 (hg _ wB_X8)
  obtain ⟨aI0, gI1, gI2⟩ := arrT (hg _ wA_int)
  obtain ⟨aJ0, gJ1, gJ2⟩ := arrT (hg _ wA_long)
  obtain ⟨aZ0, gZ1, gZ2⟩ := arrT (hg _ wA_boolean)
  obtain ⟨compN, aN0, kN, gN4, -, gN2, gN3, gN1⟩ := Cond.arrayOver_spec (hts _ over_in)
  refine ⟨((fun k => match k with | 0 => c0 | 1 => c1 | 2 => c2 | 3 => c3 | 4 => c4 | 5 => c5 | 6 => c6 | 7 => c7 | _ => c8, fun k => match k with | 0 => i0 | 1 => i1 | 2 => i2 | 3 => i3 | 4 => i4 | 5 => i5 | 6 => i6 | 7 => i7 | _ => i8), fun k => match k with | 0 => aI0 | 1 => aJ0 | 2 => aZ0 | _ => aN0), ⟨⟨fun k q hq => ?_, fun k q hq => ?_⟩, va_AO.of (hts _ over_in), fun w hw => hnw w (nest_in.1 w hw), fun w hw => hnw w (nest_in.2 w hw)⟩⟩
  · match k, hq with
    | 0, hq => cases hq; exact hK0
    | 1, hq => cases hq; exact hK1
    | 2, hq => cases hq; exact hK2
    | 3, hq => cases hq; exact hK3
    | 4, hq => cases hq; exact hK4
    | 5, hq => cases hq; exact hK5
    | 6, hq => cases hq; exact hK6
    | 7, hq => cases hq; exact hK7
    | 8, hq => cases hq; exact hK8
    | k + 9, hq => cases hq
  · match k, hq with
    | 0, hq => cases hq; exact ⟨gI1, gI2⟩
    | 1, hq => cases hq; exact ⟨gJ1, gJ2⟩
    | 2, hq => cases hq; exact ⟨gZ1, gZ2⟩
    | 3, hq => cases hq; exact ⟨fun n z => ⟨fun k h => (by cases h), kN, gN2, compN, gN3⟩, kN, compN, gN2, gN3, gN4, gN1⟩
    | k + 4, hq => cases hq
