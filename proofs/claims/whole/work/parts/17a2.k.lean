theorem lw_K {s : State} {b : Nat} (hts : ∀ w ∈ lw_tbl, w.before #[Value.ref b] s = true) : ∃ (D : va_G) (cy : Nat → ClassId), va_K D vwCl (qtys cy) s := by
  obtain ⟨c0, i0, h0⟩ := u_known (C := RX0) (T := TX0) (N := 9) (n := 9) hts wt_X0 (hts _ tb_i0)
  obtain ⟨c1, i1, h1⟩ := u_known (C := RX1) (T := TX1) (N := 10) (n := 10) hts wt_X1 (hts _ tb_i1)
  obtain ⟨c2, i2, h2⟩ := u_known (C := RX2) (T := TX2) (N := 10) (n := 10) hts wt_X2 (hts _ tb_i2)
  obtain ⟨c3, i3, h3⟩ := u_known (C := RX3) (T := TX3) (N := 6) (n := 6) hts wt_X3 (hts _ tb_i3)
  obtain ⟨c4, i4, h4⟩ := u_known (C := RX4) (T := TX4) (N := 8) (n := 8) hts wt_X4 (hts _ tb_i4)
  obtain ⟨c5, i5, h5⟩ := u_known (C := RX5) (T := TX5) (N := 10) (n := 10) hts wt_X5 (hts _ tb_i5)
  obtain ⟨c6, i6, h6⟩ := u_known (C := RX6) (T := TX6) (N := 60) (n := 60) hts wt_X6 (hts _ tb_i6)
  have ar : ∀ ty, Cond.arrayClass ty ∈ lw_tbl → (∀ C, ty ≠ .object C) → ∃ cA, ArrOfT s cA ty ∧ va_RA s cA ty := fun ty hm ho => by
    obtain ⟨cA, kA, comp, g1, g2, g3⟩ := Cond.arrayClass_spec (hts _ hm)
    refine ⟨cA, fun n z => ⟨fun k h => (by cases h), kA, g2, comp, g3⟩, ?_⟩
    cases ty with
    | object C => exact absurd rfl (ho C)
    | _ => exact g1
  have ao : ∀ ty, Cond.arrayOver (.array ty) ∈ lw_tbl → ∃ cA, ArrOfT s cA (.array ty) ∧ va_RA s cA (.array ty) := fun ty hm => by
    obtain ⟨comp, cA, kA, g1, g2, g3, g4⟩ := Cond.arrayOver_specA (hts _ hm)
    exact ⟨cA, fun n z => ⟨fun k h => (by cases h), kA, g2, comp, g3⟩, g4⟩
  obtain ⟨a0, p0⟩ := ar .byte tb_ab (fun _ h => by cases h)
  obtain ⟨a1, p1⟩ := ar .int tb_ai (fun _ h => by cases h)
  obtain ⟨a2, p2⟩ := ar .long tb_al (fun _ h => by cases h)
  obtain ⟨a3, p3⟩ := ar .boolean tb_az (fun _ h => by cases h)
  obtain ⟨comp, a4, kA, g1, -, g2, g3, g4⟩ := Cond.arrayOver_spec (hts _ tb_ot)
  obtain ⟨a5, p5⟩ := ao .byte tb_oab
  obtain ⟨a6, p6⟩ := ao .int tb_oai
  refine ⟨(fun k => if k = 0 then c0 else if k = 1 then c1 else if k = 2 then c2 else if k = 3 then c3 else if k = 4 then c4 else if k = 5 then c5 else c6, fun k => if k = 0 then i0 else if k = 1 then i1 else if k = 2 then i2 else if k = 3 then i3 else if k = 4 then i4 else if k = 5 then i5 else i6), fun k => if k = 0 then a0 else if k = 1 then a1 else if k = 2 then a2 else if k = 3 then a3 else if k = 4 then a4 else if k = 5 then a5 else a6, fun k q hq => ?_, fun k q hq => ?_⟩
  · match k, hq with
    | 0, hq => cases hq; exact h0
    | 1, hq => cases hq; exact h1
    | 2, hq => cases hq; exact h2
    | 3, hq => cases hq; exact h3
    | 4, hq => cases hq; exact h4
    | 5, hq => cases hq; exact h5
    | 6, hq => cases hq; exact h6
    | k + 7, hq => simp [vwCl] at hq
  · match k, hq with
    | 0, hq => cases hq; exact p0
    | 1, hq => cases hq; exact p1
    | 2, hq => cases hq; exact p2
    | 3, hq => cases hq; exact p3
    | 4, hq => cases hq; exact ⟨fun n z => ⟨fun k h => (by cases h), kA, g2, comp, g3⟩, kA, comp, g2, g3, g1, g4⟩
    | 5, hq => cases hq; exact p5
    | 6, hq => cases hq; exact p6
    | k + 7, hq => simp [qtys] at hq
