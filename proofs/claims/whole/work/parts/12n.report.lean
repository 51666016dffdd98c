-- ===== report, cloud =====
theorem factM_is {μ : St} {fn : Nat} {z a2 a3 : Int32} (hf : fn < 300) (h : μ.1 0 45 = nI fn) (hz : vp_nar .boolean z = z) : fX6_fact μ z a2 a3 = some (nI fn, sI (sI (sI (sI μ 29 fn z) 30 fn a2) 31 fn a3) 0 45 (nI (fn + 1))) := by
  have e1 : (sI μ 29 fn z).1 0 45 = nI fn := by rw [sI_n _ _ _ _ (by omega)]; exact h
  have e2 : (sI (sI μ 29 fn z) 30 fn a2).1 0 45 = nI fn := by rw [sI_n _ _ _ _ (by omega)]; exact e1
  have e3 : (sI (sI (sI μ 29 fn z) 30 fn a2) 31 fn a3).1 0 45 = nI fn := by rw [sI_n _ _ _ _ (by omega)]; exact e2
  have e4 : (sI (sI (sI (sI μ 29 fn z) 30 fn a2) 31 fn a3) 0 45 (nI (fn + 1))).1 0 45 = nI (fn + 1) := by rw [sI_s, upd_s]
  unfold fX6_fact
  simp only [qlet, h, nI_clamp (show fn < 2 ^ 31 by omega), hz, qix_nI hf (show 300 ≤ 2 ^ 31 by omega), e1, e2, e3, nI_1, e4, nI_m1]
theorem factM_row {μ : St} {fn : Nat} {z a2 a3 w : Int32} : (∀ i, 1 ≤ i → i ≠ 29 → i ≠ 30 → i ≠ 31 → (sI (sI (sI (sI μ 29 fn z) 30 fn a2) 31 fn a3) 0 45 w).1 i = μ.1 i) ∧ (∀ i, i ≠ 45 → (sI (sI (sI (sI μ 29 fn z) 30 fn a2) 31 fn a3) 0 45 w).1 0 i = μ.1 0 i) ∧ (sI (sI (sI (sI μ 29 fn z) 30 fn a2) 31 fn a3) 0 45 w).1 29 = upd (μ.1 29) fn z ∧ (sI (sI (sI (sI μ 29 fn z) 30 fn a2) 31 fn a3) 0 45 w).1 30 = upd (μ.1 30) fn a2 ∧ (sI (sI (sI (sI μ 29 fn z) 30 fn a2) 31 fn a3) 0 45 w).1 31 = upd (μ.1 31) fn a3 := by
  refine ⟨fun i h0 h1 h2 h3 => ?_, fun i hi => ?_, ?_, ?_, ?_⟩
  · rw [sI_n _ _ _ _ (by omega), sI_n _ _ _ _ h3, sI_n _ _ _ _ h2, sI_n _ _ _ _ h1]
  · rw [sI_s, upd_n _ _ hi, sI_n _ _ _ _ (by omega), sI_n _ _ _ _ (by omega), sI_n _ _ _ _ (by omega)]
  · rw [sI_n _ _ _ _ (by omega), sI_n _ _ _ _ (by omega), sI_n _ _ _ _ (by omega), sI_s]
  · rw [sI_n _ _ _ _ (by omega), sI_n _ _ _ _ (by omega), sI_s, sI_n _ _ _ _ (by omega)]
  · rw [sI_n _ _ _ _ (by omega), sI_s, sI_n _ _ _ _ (by omega), sI_n _ _ _ _ (by omega)]
theorem factM_pt {μ : St} {wn fn : Nat} {z a2 a3 w : Int32} : PtM μ (sI (sI (sI (sI μ 29 fn z) 30 fn a2) 31 fn a3) 0 45 w) wn fn := by
  obtain ⟨r1, r2, r3, r4, r5⟩ := factM_row (μ := μ) (fn := fn) (z := z) (a2 := a2) (a3 := a3) (w := w)
  refine ⟨fun i h1 h2 => r1 i (by omega) (by omega) (by omega) (by omega), fun j hj => by rw [r1 28 (by omega) (by omega) (by omega) (by omega)], fun j hj => ?_⟩
  rw [r3, r4, r5, upd_n _ _ (by omega), upd_n _ _ (by omega), upd_n _ _ (by omega)]
  exact ⟨rfl, rfl, rfl⟩
theorem p_report {σ μ : St} {mo la wn fn : Nat} (I : Inv σ μ mo la wn fn) (a1 a2 : Int32) : ∃ fn' r σ' μ', fX5_report σ a1 a2 = some (r, σ') ∧ fX6_report μ a1 a2 = some (r, μ') ∧ Inv σ' μ' mo la wn fn' := by
  obtain ⟨W, F, -⟩ := id I
  have hla := W.2.1
  obtain ⟨f1, f2, f3, f4, f5, f6, f7, f8, f9⟩ := id F
  unfold fX5_report fX6_report
  simp only [qlet, f5, f6]
  by_cases h1 : fn < 300
  · rw [if_neg (show ¬ (300 : Int32) ≤ nI fn from nI_ge (a := fn) (b := 300) h1 (by omega)), if_neg (show ¬ nI fn = 300 from fun q => absurd ((nI_eq (a := fn) (b := 300) (by omega) (by omega)).mp q) (by omega)), isWitC f3 f1, isWitM f4 f1, qcall_s, qcall_s]
    by_cases h2 : inN wn a1
    · rw [b01_t h2, if10, if10, evC, evM, qcall_s, qcall_s]
      by_cases h3 : inN 400 a2
      · rw [b01_t h3, if10, if10, factM_is h1 f6 nar0, qcall_s]
        have hC : fX0_addReport σ a1 a2 = some (nI fn, sI (sI (sI σ 31 fn a1) 22 fn a2) 21 7 (nI (fn + 1))) := by
          unfold fX0_addReport
          have e1 : (sI (sI σ 31 fn a1) 22 fn a2).1 21 7 = nI fn := by rw [sI_n _ _ _ _ (by omega), sI_n _ _ _ _ (by omega)]; exact f5
          simp only [qlet, f5, qix_nI h1 (show 300 ≤ 2 ^ 31 by omega), nI_clamp (show fn < 2 ^ 31 by omega), e1, nI_1]
        rw [hC, qcall_s]
        obtain ⟨r1, r2, r3, r4, r5⟩ := factM_row (μ := μ) (fn := fn) (z := 0) (a2 := a1) (a3 := a2) (w := nI (fn + 1))
        have pt := factM_pt (μ := μ) (wn := wn) (fn := fn) (z := 0) (a2 := a1) (a3 := a2) (w := nI (fn + 1))
        have c : ∀ i, i ≠ 21 → i ≠ 22 → i ≠ 31 → (sI (sI (sI σ 31 fn a1) 22 fn a2) 21 7 (nI (fn + 1))).1 i = σ.1 i := fun i q1 q2 q3 => by rw [sI_n _ _ _ _ q1, sI_n _ _ _ _ q2, sI_n _ _ _ _ q3]
        have c21 : ∀ i, i ≠ 7 → (sI (sI (sI σ 31 fn a1) 22 fn a2) 21 7 (nI (fn + 1))).1 21 i = σ.1 21 i := fun i q => by rw [sI_s, upd_n _ _ q, sI_n _ _ _ _ (by omega), sI_n _ _ _ _ (by omega)]
        refine ⟨fn + 1, nI fn, _, _, rfl, rfl, I.facts ⟨f1, by omega, by rw [c21 6 (by omega)]; exact f3, by rw [r2 43 (by omega)]; exact f4, by rw [sI_s, upd_s], by rw [sI_s, upd_s], fun w hw => ?_, fun k hk => ?_, fun l d hl hd => ?_⟩ (by omega) pt (fun i hi => c i (by omega) (by omega) (by omega)) (c21 8 (by omega)) rfl (fun i q hi => r1 i q (by omega) (by omega) (by omega)) (fun i q1 q2 => r2 i q2)⟩
        · rw [c 30 (by omega) (by omega) (by omega), r1 28 (by omega) (by omega) (by omega) (by omega)]
          exact f7 w hw
        · rw [r3, r4, r5, show (sI (sI (sI σ 31 fn a1) 22 fn a2) 21 7 (nI (fn + 1))).1 22 = upd (σ.1 22) fn a2 by rw [sI_n _ _ _ _ (by omega), sI_s, sI_n _ _ _ _ (by omega)], show (sI (sI (sI σ 31 fn a1) 22 fn a2) 21 7 (nI (fn + 1))).1 31 = upd (σ.1 31) fn a1 by rw [sI_n _ _ _ _ (by omega), sI_n _ _ _ _ (by omega), sI_s]]
          by_cases q : k = fn
          · subst q
            rw [upd_s, upd_s, upd_s, upd_s, upd_s]
            exact ⟨rfl, h3, Or.inl ⟨rfl, rfl, h2⟩⟩
          · rw [upd_n _ _ q, upd_n _ _ q, upd_n _ _ q, upd_n _ _ q, upd_n _ _ q]
            exact f8 k (by omega)
        · rw [c (24 + l) (by omega) (by omega) (by omega), f9 l d hl hd, firstC, pt.first l d fn (Nat.le_refl fn)]
          have nc : ¬ isCl (sI (sI (sI (sI μ 29 fn 0) 30 fn a1) 31 fn a2) 0 45 (nI (fn + 1))) l d fn := fun z => by
            have := z.1
            rw [r3, upd_s] at this
            exact absurd this (by decide)
          rw [if_neg nc]
          by_cases q : firstC μ l d fn = 0
          · rw [if_pos q, q]
          · rw [if_neg q]
      · rw [b01_f h3, if00, if00]
        exact ⟨fn, _, σ, μ, rfl, rfl, I⟩
    · rw [b01_f h2, if00, if00]
      exact ⟨fn, _, σ, μ, rfl, rfl, I⟩
  · have : fn = 300 := by omega
    subst this
    rw [if_pos (show (300 : Int32) ≤ nI 300 by decide), if_pos (show nI 300 = 300 from rfl)]
    exact ⟨300, _, σ, μ, rfl, rfl, I⟩
