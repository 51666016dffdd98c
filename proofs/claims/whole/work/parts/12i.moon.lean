-- ===== moon, land =====
theorem moonC_do {σ : St} {mo : Nat} {a1 : Int32} (hm : mo < 14) (h : σ.1 2 6 = nI mo) (h0 : ¬ a1 < 0) (h1 : a1 < 10000) (hp : mo = 0 ∨ σ.1 3 (mo - 1) < a1) : fX5_moon σ a1 = some (nI mo, sI (sI (sI (sI σ 3 mo a1) 2 6 (nI (mo + 1))) 21 8 (-1)) 36 9 (-1)) := by
  unfold fX5_moon
  simp only [qlet, h]
  rw [if_neg (show ¬ (14 : Int32) ≤ nI mo from nI_ge (a := mo) (b := 14) hm (by omega)), if_neg h0, if_pos h1, qix_nI hm (by omega), nI_clamp (by omega), nI_1, forget_is, qcall_s]
  rcases hp with rfl | hp
  · rw [if_pos (by decide)]
  · by_cases q : mo = 0
    · subst q
      rw [if_pos (by decide)]
    · obtain ⟨k, rfl⟩ : ∃ k, mo = k + 1 := ⟨mo - 1, by omega⟩
      rw [if_neg (nI_nle (by omega) (by omega)), nI_m1, qix_nI (show k < 14 by omega) (by omega), nI_clamp (by omega), if_pos (show σ.1 3 k < a1 from hp)]
theorem moonC_no {σ : St} {mo : Nat} {a1 : Int32} (hm : mo ≤ 14) (h : σ.1 2 6 = nI mo) (hn : ¬ (mo < 14 ∧ ¬ a1 < 0 ∧ a1 < 10000 ∧ (mo = 0 ∨ σ.1 3 (mo - 1) < a1))) : fX5_moon σ a1 = some (-1, σ) := by
  unfold fX5_moon
  simp only [qlet, h]
  by_cases q1 : mo < 14
  · rw [if_neg (show ¬ (14 : Int32) ≤ nI mo from nI_ge (a := mo) (b := 14) q1 (by omega))]
    by_cases q2 : a1 < 0
    · rw [if_pos q2]
    · rw [if_neg q2]
      by_cases q3 : a1 < 10000
      · rw [if_pos q3]
        by_cases q4 : mo = 0
        · exact absurd ⟨q1, q2, q3, Or.inl q4⟩ hn
        · obtain ⟨k, rfl⟩ : ∃ k, mo = k + 1 := ⟨mo - 1, by omega⟩
          rw [if_neg (nI_nle (by omega) (by omega)), nI_m1, qix_nI (show k < 14 by omega) (by omega), nI_clamp (by omega), if_neg (show ¬ σ.1 3 k < a1 from fun z => hn ⟨q1, q2, q3, Or.inr z⟩)]
      · rw [if_neg q3]
  · rw [if_pos (show (14 : Int32) ≤ nI mo from nI_le (a := 14) (by omega) (by omega))]
theorem moonM_do {μ : St} {mo : Nat} {a1 : Int32} (hm : mo < 14) (h : μ.1 0 35 = nI mo) (h0 : ¬ a1 < 0) (h1 : ¬ (9999 : Int32) < a1) (hp : mo = 0 ∨ μ.1 22 (mo - 1) < a1) : fX6_moon μ a1 = some (nI mo, sI (sI (sI μ 22 mo a1) 0 35 (nI (mo + 1))) 0 49 (-1)) := by
  unfold fX6_moon
  have e1 : (sI μ 22 mo a1).1 0 35 = nI mo := by rw [sI_n _ _ _ _ (by omega)]; exact h
  have e2 : (sI (sI (sI μ 22 mo a1) 0 35 (nI (mo + 1))) 0 49 (-1)).1 0 35 = nI (mo + 1) := by rw [sI_s, upd_n _ _ (by omega), sI_s, upd_s]
  simp only [qlet, h, nI_clamp (show mo < 2 ^ 31 by omega), e1, nI_1, e2, nI_m1]
  rw [if_neg (show ¬ nI mo = 14 from fun q => absurd ((nI_eq (a := mo) (b := 14) (by omega) (by omega)).mp q) (by omega)), if_neg h0, if_neg h1, qix_nI hm (by omega)]
  rcases hp with rfl | hp
  · rw [if_pos (by decide)]
  · by_cases q : mo = 0
    · subst q
      rw [if_pos (by decide)]
    · obtain ⟨k, rfl⟩ : ∃ k, mo = k + 1 := ⟨mo - 1, by omega⟩
      rw [if_neg (nI_nle (by omega) (by omega)), nI_m1, qix_nI (show k < 14 by omega) (by omega), nI_clamp (by omega), if_pos (show μ.1 22 k < a1 from hp)]
theorem moonM_no {μ : St} {mo : Nat} {a1 : Int32} (hm : mo ≤ 14) (h : μ.1 0 35 = nI mo) (hn : ¬ (mo < 14 ∧ ¬ a1 < 0 ∧ ¬ (9999 : Int32) < a1 ∧ (mo = 0 ∨ μ.1 22 (mo - 1) < a1))) : fX6_moon μ a1 = some (-1, μ) := by
  unfold fX6_moon
  simp only [qlet, h]
  by_cases q1 : mo < 14
  · rw [if_neg (show ¬ nI mo = 14 from fun q => absurd ((nI_eq (a := mo) (b := 14) (by omega) (by omega)).mp q) (by omega))]
    by_cases q2 : a1 < 0
    · rw [if_pos q2]
    · rw [if_neg q2]
      by_cases q3 : (9999 : Int32) < a1
      · rw [if_pos q3]
      · rw [if_neg q3]
        by_cases q4 : mo = 0
        · exact absurd ⟨q1, q2, q3, Or.inl q4⟩ hn
        · obtain ⟨k, rfl⟩ : ∃ k, mo = k + 1 := ⟨mo - 1, by omega⟩
          rw [if_neg (nI_nle (by omega) (by omega)), nI_m1, qix_nI (show k < 14 by omega) (by omega), nI_clamp (by omega), if_neg (show ¬ μ.1 22 k < a1 from fun z => hn ⟨q1, q2, q3, Or.inr z⟩)]
  · have : mo = 14 := by omega
    subst this
    rw [if_pos (show nI 14 = 14 from rfl)]
theorem p_moon {σ μ : St} {mo la wn fn : Nat} (I : Inv σ μ mo la wn fn) (a1 : Int32) : ∃ mo' r σ' μ', fX5_moon σ a1 = some (r, σ') ∧ fX6_moon μ a1 = some (r, μ') ∧ Inv σ' μ' mo' la wn fn := by
  obtain ⟨W, F, -⟩ := id I
  obtain ⟨w1, w2, w3, w4, w5, w6, w7, w8, w9, w10, w11⟩ := id W
  have e4 : (10000 : Int32).toInt = 10000 := by decide
  have e3 : (9999 : Int32).toInt = 9999 := by decide
  have e0 : (0 : Int32).toInt = 0 := by decide
  have hiff : a1 < 10000 ↔ ¬ (9999 : Int32) < a1 := by rw [fa_lt, fa_lt, e4, e3]; omega
  have hprev : mo ≤ 14 → (mo = 0 ∨ σ.1 3 (mo - 1) < a1 ↔ mo = 0 ∨ μ.1 22 (mo - 1) < a1) := fun _ => by
    by_cases q : mo = 0
    · exact ⟨fun _ => Or.inl q, fun _ => Or.inl q⟩
    · rw [(w7 (mo - 1) (by omega)).1]
  by_cases h : mo < 14 ∧ ¬ a1 < 0 ∧ a1 < 10000 ∧ (mo = 0 ∨ σ.1 3 (mo - 1) < a1)
  · obtain ⟨h1, h2, h3, h4⟩ := h
    rw [moonC_do h1 w3 h2 h3 h4, moonM_do h1 w4 h2 (hiff.mp h3) ((hprev w1).mp h4)]
    obtain ⟨k1, k2, k3, k4⟩ := forget_keep (sI (sI σ 3 mo a1) 2 6 (nI (mo + 1)))
    have c : ∀ i, i ≠ 21 → i ≠ 36 → i ≠ 2 → i ≠ 3 → (sI (sI (sI (sI σ 3 mo a1) 2 6 (nI (mo + 1))) 21 8 (-1)) 36 9 (-1)).1 i = σ.1 i := fun i q1 q2 q3 q4 => by rw [k1 i q1 q2, sI_n _ _ _ _ q3, sI_n _ _ _ _ q4]
    have g : ∀ i, 1 ≤ i → i ≠ 22 → (sI (sI (sI μ 22 mo a1) 0 35 (nI (mo + 1))) 0 49 (-1)).1 i = μ.1 i := fun i q1 q2 => by rw [sI_n _ _ _ _ (by omega), sI_n _ _ _ _ (by omega), sI_n _ _ _ _ q2]
    have g0 : ∀ i, i ≠ 35 → i ≠ 49 → (sI (sI (sI μ 22 mo a1) 0 35 (nI (mo + 1))) 0 49 (-1)).1 0 i = μ.1 0 i := fun i q1 q2 => by rw [sI_s, upd_n _ _ q2, sI_s, upd_n _ _ q1, sI_n _ _ _ _ (by omega)]
    refine ⟨mo + 1, nI mo, _, _, rfl, rfl, I.world ?_ (Nat.le_refl la) (fun i hi => c i (by omega) (by omega) (by omega) (by omega)) ?_ ?_ rfl (fun i q hi => g i q (by omega)) (fun i q1 q2 q3 => g0 i q1 q3) k3 k4 (by rw [sI_s, upd_s])⟩
    · refine ⟨by omega, w2, ?_, ?_, ?_, by rw [g0 37 (by omega) (by omega)]; exact w6, fun k hk => ?_, fun l hl => ?_, fun l hl => ?_, fun l i hl hi => ?_, fun f t hf ht => ?_⟩
      · rw [k1 2 (by omega) (by omega), sI_s, upd_s]
      · rw [sI_s, upd_n _ _ (by omega), sI_s, upd_s]
      · rw [k1 2 (by omega) (by omega), sI_s, upd_n _ _ (by omega), sI_n _ _ _ _ (by omega)]
        exact w5
      · have e22 : (sI (sI (sI μ 22 mo a1) 0 35 (nI (mo + 1))) 0 49 (-1)).1 22 = upd (μ.1 22) mo a1 := by rw [sI_n _ _ _ _ (by omega), sI_n _ _ _ _ (by omega), sI_s]
        rw [k1 3 (by omega) (by omega), sI_n _ _ _ _ (by omega), sI_s, e22]
        by_cases q : k = mo
        · subst q
          rw [upd_s, upd_s]
          rw [fa_lt, e0] at h2
          rw [fa_lt, e4] at h3
          exact ⟨rfl, by omega, by omega⟩
        · rw [upd_n _ _ q, upd_n _ _ q]
          exact w7 k (by omega)
      · rw [c 4 (by omega) (by omega) (by omega) (by omega), c 5 (by omega) (by omega) (by omega) (by omega), g 23 (by omega) (by omega), g 24 (by omega) (by omega)]
        exact w8 l hl
      · rw [c 13 (by omega) (by omega) (by omega) (by omega), g 25 (by omega) (by omega)]
        exact w9 l hl
      · rw [c (7 + l) (by omega) (by omega) (by omega) (by omega), g 26 (by omega) (by omega)]
        exact w10 l i hl hi
      · rw [c (15 + f) (by omega) (by omega) (by omega) (by omega), g 27 (by omega) (by omega)]
        exact w11 f t hf ht
    · rw [k2 6 (by omega), sI_n _ _ _ _ (by omega), sI_n _ _ _ _ (by omega)]
    · rw [k2 7 (by omega), sI_n _ _ _ _ (by omega), sI_n _ _ _ _ (by omega)]
  · rw [moonC_no w1 w3 h, moonM_no w1 w4 (fun z => h ⟨z.1, z.2.1, hiff.mpr z.2.2.1, (hprev w1).mpr z.2.2.2⟩)]
    exact ⟨mo, _, σ, μ, rfl, rfl, I⟩
