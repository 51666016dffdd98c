-- ===== read =====
theorem InvX.keep {σ σ' μ μ' : St} {la l l' v p : Nat} (X : InvX σ μ la) (hl : l < 6) (hl' : l' < 6) (hv : v ≤ 1) (h8 : μ.1 8 l = nI v) (hp : p = 2 * l + (1 - v)) (hT : σ'.2.2 l' = σ.2.2 l') (hC : ∀ i, 61 ≤ i → ¬ (61 + 5 * σ.2.2 6 ≤ i ∧ i ≤ 61 + 5 * σ.2.2 6 + 3) → σ'.1 i = σ.1 i) (hM8 : μ'.1 8 l' = μ.1 8 l') (hM : ∀ q, q ≠ p → PgEq q μ μ') : TextR σ' μ' l' ∧ ∃ r v, r ≤ 12 ∧ v ≤ 1 ∧ σ'.1 (61 + 5 * σ'.2.2 l') 5 = nI r ∧ μ'.1 8 l' = nI v ∧ μ'.1 9 (2 * l' + v) = nI r ∧ (la ≤ l' → r = 0) := by
  obtain ⟨x1, x2, x3, x4, -⟩ := X
  have hne : σ.2.2 l' ≠ σ.2.2 6 := fun q => by have := x4 l' 6 (by omega) (by omega) q; omega
  obtain ⟨r0, n, K, v', r1, r2, r3, r4, r5⟩ := x1 l' hl'
  have pn : ∀ w, w ≤ 1 → μ.1 8 l' = nI w → 2 * l' + w ≠ p := fun w hw h q => by
    have e : l' = l := by omega
    subst e
    rw [h8] at h
    have := (nI_eq (by omega) (by omega)).mp h
    omega
  refine ⟨?_, ?_⟩
  · unfold TextR
    rw [hT]
    exact ⟨r0, n, K, v', r1, by rw [hM8]; exact r2, r3, r4.congr (fun i hi => hC _ (by omega) (by omega)), r5.congr r3.1 (hM _ (pn v' r1 r2))⟩
  · obtain ⟨r, w, a1, a2, a3, a4, a5, a6⟩ := x2 l' hl'
    rw [hT]
    exact ⟨r, w, a1, a2, by rw [hC _ (by omega) (by omega)]; exact a3, by rw [hM8]; exact a4, by rw [(hM _ (pn w a2 a4)).1]; exact a5, a6⟩
theorem readC_go {σ : St} {n t la l : Nat} {f : Nat → Int32} (h1 : σ.1 0 1 = nI n) (hn : n ≤ 2000) (hf : σ.1 1 = f) : ∃ σ1, fX2_readInto σ t (nI n) = CL 100000 t (nI n) 0 0 σ1 ∧ PC σ1 f n t (offC (fun _ => (0, [])) 0) 0 [] [] 0 false ∧ TxC σ1 t 0 (fun _ => (0, [])) ∧ RC t σ σ1 := by
  generalize hτ : sI (sI (sI (sI (sI σ 34 3 (nI n)) 34 4 0) 34 7 0) 34 8 0) 34 1 0 = τ
  have t1 : ∀ i, i ≠ 34 → τ.1 i = σ.1 i := fun i hi => by rw [← hτ, sI_n _ _ _ _ hi, sI_n _ _ _ _ hi, sI_n _ _ _ _ hi, sI_n _ _ _ _ hi, sI_n _ _ _ _ hi]
  have t3 : τ.1 34 3 = nI n := by rw [← hτ, sI_s, upd_n _ _ (by omega), sI_s, upd_n _ _ (by omega), sI_s, upd_n _ _ (by omega), sI_s, upd_n _ _ (by omega), sI_s, upd_s]
  have t4 : τ.1 34 4 = 0 := by rw [← hτ, sI_s, upd_n _ _ (by omega), sI_s, upd_n _ _ (by omega), sI_s, upd_n _ _ (by omega), sI_s, upd_s]
  have t7 : τ.1 34 7 = 0 := by rw [← hτ, sI_s, upd_n _ _ (by omega), sI_s, upd_n _ _ (by omega), sI_s, upd_s]
  have t8 : τ.1 34 8 = 0 := by rw [← hτ, sI_s, upd_n _ _ (by omega), sI_s, upd_s]
  have t01 : τ.1 34 1 = 0 := by rw [← hτ, sI_s, upd_s]
  have t2 : τ.2 = σ.2 := by rw [← hτ]; rfl
  generalize hω : sI (sI τ (61 + 5 * t) 5 0) (61 + 5 * t) 4 0 = ω
  have w1 : ∀ i, i ≠ 61 + 5 * t → ω.1 i = τ.1 i := fun i hi => by rw [← hω, sI_n _ _ _ _ hi, sI_n _ _ _ _ hi]
  have w4 : ω.1 (61 + 5 * t) 4 = 0 := by rw [← hω, sI_s, upd_s]
  have w5 : ω.1 (61 + 5 * t) 5 = 0 := by rw [← hω, sI_s, upd_n _ _ (by omega), sI_s, upd_s]
  have w2 : ω.2 = τ.2 := by rw [← hω]; rfl
  refine ⟨ω, ?_, ⟨by rw [w1 1 (by omega), t1 1 (by omega)]; exact hf, ⟨by rw [w1 34 (by omega)]; exact t3, hn⟩, by rw [w1 34 (by omega)]; exact t4, by rw [w1 34 (by omega)]; exact t7, by omega, by rw [w1 34 (by omega)]; exact t8, ⟨w4, trivial, by rw [w1 34 (by omega)]; exact t01, trivial, Nat.le_refl _, by omega, by decide, fun x hx => by cases hx⟩⟩, ⟨w5, fun r hr => absurd hr (by omega)⟩, ⟨fun i a1 a2 a3 => by rw [w1 i (by omega), t1 i a1], by rw [w2, t2]⟩⟩
  unfold fX2_readInto CL
  rw [if_neg (show ¬ (2000 : Int32) < nI n from nI_nlt (a := 2000) hn (by omega)), qlet_e, qlet_e, qlet_e, qzz_0, qlet_e, qlet_e, hτ]
  unfold fX3_clearRules
  rw [qlet_e, qlet_e, hω, qcall_s]
  rfl
theorem p_read {σ μ : St} {mo la wn fn : Nat} (I : Inv σ μ mo la wn fn) (a1 : Int32) : ∃ r σ' μ', fX5_read σ a1 = some (r, σ') ∧ fX6_read μ a1 = some (r, μ') ∧ Inv σ' μ' mo la wn fn := by
  obtain ⟨W, F, ⟨n, hn, n1, n2, n3⟩, Pl, J, S, X⟩ := id I
  have hla := W.2.1
  have hfn := F.2.1
  by_cases h : inN la a1
  · obtain ⟨l, hl, rfl⟩ := id h
    obtain ⟨x1, x2, x3, x4, x5⟩ := id X
    obtain ⟨rr, v, -, hv, -, h8, -, -⟩ := x2 l (by omega)
    have ht7 := x3 6 (by omega)
    obtain ⟨σ1, c1, P, TC, rc1⟩ := readC_go (la := la) (l := l) (t := σ.2.2 6) (f := σ.1 1) n1 hn rfl
    generalize ht : σ.2.2 6 = t at c1 P TC rc1 ht7
    obtain ⟨M, hM⟩ : ∃ M, 100000 = M + 1 + n := ⟨99999 - n, by omega⟩
    obtain ⟨μ1, m1, m2, m3, m4⟩ := copy_run (a1 := nI l) (f := σ.1 1) hn n 0 (M + 1) (sI μ 0 4 (nI n)) (by omega) (by rw [sI_s, upd_s]) (fun i hi => by rw [sI_n _ _ _ _ (by omega)]; exact ⟨(n3 i hi).1.symm, (n3 i hi).2⟩) (fun i hi => absurd hi (by omega))
    have m4' : μ1.2 = μ.2 := m4
    obtain ⟨μ2, s1, s2, s3, s4, s5, s6, s7, s8, s9, s10, s11⟩ := start_M (N := M) (μ := μ1) (f := σ.1 1) (n := n) (l := l) (v := v) (by omega) hv (by rw [m3 0 (by omega), sI_s, upd_s]) hn (fun i hi => ⟨m2 i hi, (n3 i hi).2⟩) (by rw [m3 8 (by omega), sI_n _ _ _ _ (by omega)]; exact h8) (by unfold Keys; rw [m4']; exact x5)
    generalize hp : 2 * l + (1 - v) = p at s2 s9
    obtain ⟨μ3, e1, e2, e3⟩ := loop_sim (a2 := nI n) (a1 := nI l) (F := 100000) (by omega) M 0 0 0 (fun _ => (0, [])) σ1 μ2 P TC ⟨by omega, fun r hr => absurd hr (by omega)⟩ s2 s3 s4 s5 (fun j hj => absurd hj (by omega)) (by omega)
    -- what the reference has kept
    have g1 : ∀ i, i = 1 ∨ i = 8 ∨ 22 ≤ i → μ3.1 i = μ.1 i := fun i hi => by rw [e2.1 i (by omega) (by omega), s6 i (by omega) (by omega) (by omega) (by omega) (by omega), m3 i (by omega), sI_n _ _ _ _ (by omega)]
    have g0 : ∀ i, i = 17 ∨ i = 35 ∨ i = 37 ∨ i = 43 ∨ i = 45 ∨ i = 49 → μ3.1 0 i = μ.1 0 i := fun i hi => by rw [e2.2.1 i (by omega) (by omega) (by omega) (by omega) (by omega) (by omega), s7 i (by omega) (by omega) (by omega) (by omega) (by omega) (by omega) (by omega) (by omega), m3 0 (by omega), sI_s, upd_n _ _ (by omega)]
    have g2 : μ3.1 0 2 = 0 := by rw [e2.2.1 2 (by omega) (by omega) (by omega) (by omega) (by omega) (by omega)]; exact s8
    have gp : ∀ q, q ≠ p → PgEq q μ μ3 := fun q hq => by
      have a : PgEq q μ μ1 := ⟨by rw [m3 9 (by omega), sI_n _ _ _ _ (by omega)], fun i q1 q2 r _ => by rw [m3 i (by omega), sI_n _ _ _ _ (by omega)], fun i q1 q2 r _ => by rw [m3 i (by omega), sI_n _ _ _ _ (by omega)], fun i q1 q2 r _ => by rw [m3 i (by omega), sI_n _ _ _ _ (by omega)]⟩
      exact (a.trans (s9 q hq)).trans (e2.2.2.1 q hq)
    have gK : Keys μ3 := by
      unfold Keys
      rw [e2.2.2.2]
      exact s10
    have hMr : fX6_read μ (nI l) = endM (nI l) μ3 := by
      unfold fX6_read
      rw [isLandM W.2.2.2.2.2.1 hla, qcall_s, b01_t h, if10, n2, qlet_e, hM]
      exact m1.trans (s1.trans e1)
    have hCr : ∀ (A : Int32 → St → Option (Int32 × St)), qcall (fX2_readInto σ t (nI n)) A = qcall (CL 100000 t (nI n) 0 0 σ1) A := fun A => by rw [c1]
    rcases e3 with ⟨e, pl, σ2, b1, fm, b3, b4⟩ | ⟨R', K', σ2, b1, b2', b3, b4, b5, b6⟩
    · -- a fault
      have hc : ∀ i, i ≠ 34 → i ≠ 35 → ¬ (61 + 5 * t ≤ i ∧ i ≤ 61 + 5 * t + 3) → σ2.1 i = σ.1 i := fun i q1 q2 q3 => ((rc1.trans b4).1 i q1 q2 q3)
      have hc2 : σ2.2 = σ.2 := (rc1.trans b4).2
      have he := fm.2.1
      have fin : fX5_read σ (nI l) = some (nI e, sI (sI σ2 0 1 0) 0 2 (nI pl)) := by
        have e34 : (sI σ2 0 1 0).1 34 9 = nI pl := by rw [sI_n _ _ _ _ (by omega)]; exact b3
        unfold fX5_read
        rw [isLandC W.2.2.2.2.1 hla, qcall_s, b01_t h, if10, qlet_e, ht, qtx_lt ht7, n1, hCr, b1, qcall_s, qlet_e, if_neg (nI_ne0 (by omega) (by omega)), e34, qlet_e]
      have finM : endM (nI l) μ3 = some (nI e, sI μ3 0 17 (nI pl)) := by
        have z : (sI μ3 0 17 (nI pl)).1 0 13 = nI e := by rw [sI_s, upd_n _ _ (by omega)]; exact fm.1
        unfold endM
        rw [if_neg fm.ne.2, fm.2.2.1, qlet_e, z, if_neg (nI_nle (by omega) (by omega))]
      rw [fin, hMr, finM]
      generalize hτ : sI (sI σ2 0 1 0) 0 2 (nI pl) = τ
      have t1 : ∀ i, i ≠ 0 → i ≠ 34 → i ≠ 35 → ¬ (61 + 5 * t ≤ i ∧ i ≤ 61 + 5 * t + 3) → τ.1 i = σ.1 i := fun i q0 q1 q2 q3 => by rw [← hτ, sI_n _ _ _ _ q0, sI_n _ _ _ _ q0, hc i q1 q2 q3]
      have t01 : τ.1 0 1 = 0 := by rw [← hτ, sI_s, upd_n _ _ (by omega), sI_s, upd_s]
      have t02 : τ.1 0 2 = nI pl := by rw [← hτ, sI_s, upd_s]
      have t2 : τ.2 = σ.2 := by rw [← hτ]; exact hc2
      generalize hω : sI μ3 0 17 (nI pl) = ω
      have w1 : ∀ i, i ≠ 0 → ω.1 i = μ3.1 i := fun i hi => by rw [← hω, sI_n _ _ _ _ hi]
      have w0 : ∀ i, i ≠ 17 → ω.1 0 i = μ3.1 0 i := fun i hi => by rw [← hω, sI_s, upd_n _ _ hi]
      have w17 : ω.1 0 17 = nI pl := by rw [← hω, sI_s, upd_s]
      have w2 : ω.2 = μ3.2 := by rw [← hω]; rfl
      have part := fun l' (hl' : l' < 6) => X.keep (σ' := τ) (μ' := ω) (show l < 6 by omega) hl' hv h8 hp.symm (by rw [t2]) (fun i q1 q2 => t1 i (by omega) (by omega) (by omega) (by rw [← ht]; exact q2)) (by rw [w1 8 (by omega), g1 8 (by omega)]) (fun q hq => by
        obtain ⟨y1, y2, y3, y4⟩ := gp q hq
        exact ⟨by rw [w1 9 (by omega)]; exact y1, fun i q1 q2 => by rw [w1 i (by omega)]; exact y2 i q1 q2, fun i q1 q2 => by rw [w1 i (by omega)]; exact y3 i q1 q2, fun i q1 q2 => by rw [w1 i (by omega)]; exact y4 i q1 q2⟩)
      refine ⟨_, τ, ω, rfl, rfl, (W.congr (fun i q1 q2 => t1 i (by omega) (by omega) (by omega) (by omega))).congrM (fun i q1 q2 => by rw [w1 i (by omega), g1 i (by omega)]) (by rw [w0 35 (by omega), g0 35 (by omega)]) (by rw [w0 37 (by omega), g0 37 (by omega)]), (F.congr (fun i q1 q2 => t1 i (by omega) (by omega) (by omega) (by omega)) (by rw [t1 21 (by omega) (by omega) (by omega) (by omega)]) (by rw [t1 21 (by omega) (by omega) (by omega) (by omega)])).congrM (fun i q1 q2 => by rw [w1 i (by omega), g1 i (by omega)]) (by rw [w0 43 (by omega), g0 43 (by omega)]) (by rw [w0 45 (by omega), g0 45 (by omega)]), ⟨0, by omega, t01, by rw [w0 2 (by omega)]; exact g2, fun k hk => absurd hk (by omega)⟩, t02.trans w17.symm, ?_, ?_, ⟨fun l' hl' => (part l' hl').1, fun l' hl' => (part l' hl').2, by rw [t2]; exact x3, by rw [t2]; exact x4, by unfold Keys; rw [w2]; exact gK⟩⟩
      · rcases J with q | ⟨k, hk, q⟩
        · exact Or.inl (by rw [t1 21 (by omega) (by omega) (by omega) (by omega)]; exact q)
        · exact Or.inr ⟨k, hk, (q.congr (by rw [t1 21 (by omega) (by omega) (by omega) (by omega)]) (t1 32 (by omega) (by omega) (by omega) (by omega))).congrM (fun i q1 q2 => by rw [w1 i (by omega), g1 i (by omega)])⟩
      · unfold InvS
        rw [t1 36 (by omega) (by omega) (by omega) (by omega), w0 49 (by omega), g0 49 (by omega)]
        exact ⟨S.1, S.2.imp id (fun q => ⟨q.1, fun l' hl' => (q.2 l' hl').congr (fun i hi => t1 i (by omega) (by omega) (by omega) (by omega)) (fun i hi => by rw [w1 i (by omega), g1 i (by omega)])⟩)⟩
    · -- the text is the land's
      have hc : ∀ i, i ≠ 34 → i ≠ 35 → ¬ (61 + 5 * t ≤ i ∧ i ≤ 61 + 5 * t + 3) → σ2.1 i = σ.1 i := fun i q1 q2 q3 => ((rc1.trans b2').1 i q1 q2 q3)
      have hc2 : σ2.2 = σ.2 := (rc1.trans b2').2
      have tl7 := x3 l (by omega)
      have fin : fX5_read σ (nI l) = some (0, sI (sI (sT (sT (sI (sI σ2 0 1 0) 0 2 (-1)) l t) 6 (σ.2.2 l)) 21 8 (-1)) 36 9 (-1)) := by
        have u : (sI (sI σ2 0 1 0) 0 2 (-1)).2.2 = σ.2.2 := by show σ2.2.2 = _; rw [hc2]
        unfold fX5_read
        rw [isLandC W.2.2.2.2.1 hla, qcall_s, b01_t h, if10, qlet_e, ht, qtx_lt ht7, n1, hCr, b1, qcall_s, qlet_e, if_pos rfl, qlet_e, qix_nI (show l < 6 by omega) (by omega), nI_clamp (by omega), u, qlet_e, qtx_lt tl7, ht, qlet_e, qtx_lt ht7, qix_nI (show l < 6 by omega) (by omega), qlet_e, qlet_e, forget_is, qcall_s]
      have finM : endM (nI l) μ3 = some (0, sI (sI (sI μ3 0 17 (-1)) 8 l (nI (1 - v))) 0 49 (-1)) := by
        have z : (sI μ3 0 17 (-1)).1 0 13 = 0 := by rw [sI_s, upd_n _ _ (by omega)]; exact b6
        have z8 : (sI μ3 0 17 (-1)).1 8 l = nI v := by rw [sI_n _ _ _ _ (by omega), g1 8 (by omega)]; exact h8
        unfold endM
        rw [b6, if_pos (show (0 : Int32) ≤ 0 by decide), qlet_e, z, if_pos (show (0 : Int32) ≤ 0 by decide), qix_nI (show l < 6 by omega) (by omega), qix_nI (show l < 6 by omega) (by omega), nI_clamp (by omega), z8, show (1 : Int32) = nI 1 from rfl, pk_sub hv, qlet_e, qlet_e]
      rw [fin, hMr, finM]
      generalize hτ : sI (sI (sT (sT (sI (sI σ2 0 1 0) 0 2 (-1)) l t) 6 (σ.2.2 l)) 21 8 (-1)) 36 9 (-1) = τ
      have t0 : ∀ i, i ≠ 0 → i ≠ 21 → i ≠ 36 → τ.1 i = σ2.1 i := fun i q0 q1 q2 => by rw [← hτ, sI_n _ _ _ _ q2, sI_n _ _ _ _ q1, sT_1, sT_1, sI_n _ _ _ _ q0, sI_n _ _ _ _ q0]
      have t1 : ∀ i, i ≠ 0 → i ≠ 21 → i ≠ 36 → i ≠ 34 → i ≠ 35 → ¬ (61 + 5 * t ≤ i ∧ i ≤ 61 + 5 * t + 3) → τ.1 i = σ.1 i := fun i q0 q4 q5 q1 q2 q3 => by rw [t0 i q0 q4 q5, hc i q1 q2 q3]
      have t01 : τ.1 0 1 = 0 := by rw [← hτ, sI_n _ _ _ _ (by omega), sI_n _ _ _ _ (by omega), sT_1, sT_1, sI_s, upd_n _ _ (by omega), sI_s, upd_s]
      have t02 : τ.1 0 2 = -1 := by rw [← hτ, sI_n _ _ _ _ (by omega), sI_n _ _ _ _ (by omega), sT_1, sT_1, sI_s, upd_s]
      have t21 : ∀ i, i ≠ 8 → τ.1 21 i = σ.1 21 i := fun i hi => by rw [← hτ, sI_n _ _ _ _ (by omega), sI_s, upd_n _ _ hi, sT_1, sT_1, sI_n _ _ _ _ (by omega), sI_n _ _ _ _ (by omega), hc 21 (by omega) (by omega) (by omega)]
      have t218 : τ.1 21 8 = -1 := by rw [← hτ, sI_n _ _ _ _ (by omega), sI_s, upd_s]
      have t369 : τ.1 36 9 = -1 := by rw [← hτ, sI_s, upd_s]
      have tT : ∀ j, τ.2.2 j = if j = 6 then σ.2.2 l else if j = l then t else σ.2.2 j := fun j => by
        rw [← hτ]
        show va_up (va_up σ2.2.2 l t) 6 (σ.2.2 l) j = _
        rw [hc2]
        rfl
      generalize hω : sI (sI (sI μ3 0 17 (-1)) 8 l (nI (1 - v))) 0 49 (-1) = ω
      have w1 : ∀ i, i ≠ 0 → i ≠ 8 → ω.1 i = μ3.1 i := fun i hi h8' => by rw [← hω, sI_n _ _ _ _ hi, sI_n _ _ _ _ h8', sI_n _ _ _ _ hi]
      have w0 : ∀ i, i ≠ 17 → i ≠ 49 → ω.1 0 i = μ3.1 0 i := fun i hi h9 => by rw [← hω, sI_s, upd_n _ _ h9, sI_n _ _ _ _ (by omega), sI_s, upd_n _ _ hi]
      have w17 : ω.1 0 17 = -1 := by rw [← hω, sI_s, upd_n _ _ (by omega), sI_n _ _ _ _ (by omega), sI_s, upd_s]
      have w49 : ω.1 0 49 = -1 := by rw [← hω, sI_s, upd_s]
      have w8 : ω.1 8 = upd (μ3.1 8) l (nI (1 - v)) := by rw [← hω, sI_n _ _ _ _ (by omega), sI_s, sI_n _ _ _ _ (by omega)]
      have w2 : ω.2 = μ3.2 := by rw [← hω]; rfl
      have pg : ∀ q, PgEq q μ3 ω := fun q => ⟨by rw [w1 9 (by omega) (by omega)], fun i q1 q2 r _ => by rw [w1 i (by omega) (by omega)], fun i q1 q2 r _ => by rw [w1 i (by omega) (by omega)], fun i q1 q2 r _ => by rw [w1 i (by omega) (by omega)]⟩
      have tl : τ.2.2 l = t := by rw [tT l, if_neg (by omega), if_pos rfl]
      have part : ∀ l', l' < 6 → TextR τ ω l' ∧ ∃ r v, r ≤ 12 ∧ v ≤ 1 ∧ τ.1 (61 + 5 * τ.2.2 l') 5 = nI r ∧ ω.1 8 l' = nI v ∧ ω.1 9 (2 * l' + v) = nI r ∧ (la ≤ l' → r = 0) := fun l' hl' => by
        by_cases ql : l' = l
        · subst ql
          have TCn : TxC τ t R' K' := b3.congr (fun i hi => t0 _ (by omega) (by omega) (by omega))
          have TMn : TxM ω p 500 R' K' := b5.congr b4.1 (pg p)
          refine ⟨⟨by rw [tl]; exact ht7, R', K', 1 - v, by omega, by rw [w8, upd_s], b4, by rw [tl]; exact TCn, by rw [hp]; exact TMn⟩, R', 1 - v, b4.1, by omega, by rw [tl]; exact TCn.1, by rw [w8, upd_s], by rw [hp]; exact TMn.1, fun q => by omega⟩
        · exact X.keep (σ' := τ) (μ' := ω) (show l < 6 by omega) hl' hv h8 hp.symm (by rw [tT l', if_neg (by omega), if_neg ql]) (fun i q1 q2 => t1 i (by omega) (by omega) (by omega) (by omega) (by omega) (by rw [← ht]; exact q2)) (by rw [w8, upd_n _ _ ql, g1 8 (by omega)]) (fun q hq => (gp q hq).trans (pg q))
      refine ⟨_, τ, ω, rfl, rfl, (W.congr (fun i q1 q2 => t1 i (by omega) (by omega) (by omega) (by omega) (by omega) (by omega))).congrM (fun i q1 q2 => by rw [w1 i (by omega) (by omega), g1 i (by omega)]) (by rw [w0 35 (by omega) (by omega), g0 35 (by omega)]) (by rw [w0 37 (by omega) (by omega), g0 37 (by omega)]), (F.congr (fun i q1 q2 => t1 i (by omega) (by omega) (by omega) (by omega) (by omega) (by omega)) (t21 6 (by omega)) (t21 7 (by omega))).congrM (fun i q1 q2 => by rw [w1 i (by omega) (by omega), g1 i (by omega)]) (by rw [w0 43 (by omega) (by omega), g0 43 (by omega)]) (by rw [w0 45 (by omega) (by omega), g0 45 (by omega)]), ⟨0, by omega, t01, by rw [w0 2 (by omega) (by omega)]; exact g2, fun k hk => absurd hk (by omega)⟩, t02.trans w17.symm, Or.inl t218, ⟨t369.trans w49.symm, Or.inl t369⟩, ⟨fun l' hl' => (part l' hl').1, fun l' hl' => (part l' hl').2, fun i hi => ?_, fun i j hi hj q => ?_, by unfold Keys; rw [w2]; exact gK⟩⟩
      · rw [tT i]
        split
        · exact tl7
        · split
          · exact ht7
          · exact x3 i hi
      · rw [tT i, tT j] at q
        have xl := fun a b (ha : a < 7) (hb : b < 7) => x4 a b ha hb
        by_cases i6 : i = 6
        · by_cases j6 : j = 6
          · omega
          · rw [if_pos i6, if_neg j6] at q
            by_cases jl : j = l
            · rw [if_pos jl, ← ht] at q
              have := xl l 6 (by omega) (by omega) q
              omega
            · rw [if_neg jl] at q
              have := xl l j (by omega) hj q
              omega
        · rw [if_neg i6] at q
          by_cases j6 : j = 6
          · rw [if_pos j6] at q
            by_cases il : i = l
            · rw [if_pos il, ← ht] at q
              have := xl 6 l (by omega) (by omega) q
              omega
            · rw [if_neg il] at q
              have := xl i l hi (by omega) q
              omega
          · rw [if_neg j6] at q
            by_cases il : i = l
            · by_cases jl : j = l
              · omega
              · rw [if_pos il, if_neg jl, ← ht] at q
                have := xl 6 j (by omega) hj q
                omega
            · rw [if_neg il] at q
              by_cases jl : j = l
              · rw [if_pos jl, ← ht] at q
                have := xl i 6 hi (by omega) q
                omega
              · rw [if_neg jl] at q
                exact xl i j hi hj q
  · unfold fX5_read fX6_read
    rw [isLandC W.2.2.2.2.1 hla, isLandM W.2.2.2.2.2.1 hla, qcall_s, qcall_s, b01_f h, if00, if00]
    exact ⟨_, σ, μ, rfl, rfl, I⟩
