-- ===== count =====
def cS (r : Nat → Int32) : Nat → Int32
  | 0 => 0
  | l + 1 => cS r l + r l
theorem cS_zero {r : Nat → Int32} {m : Nat} (h : ∀ l, m ≤ l → l < 6 → r l = 0) : ∀ j, m + j ≤ 6 → cS r (m + j) = cS r m
  | 0, _ => rfl
  | j + 1, hj => by
    rw [show m + (j + 1) = (m + j) + 1 by omega, cS, h (m + j) (by omega) (by omega), Int32.add_zero]
    exact cS_zero h j (by omega)
theorem crC_run {σ : St} (h7 : ∀ l, l < 6 → σ.2.2 l < 7) : ∀ (j k N : Nat), j + k = 6 → j < N → fX5_countRules_L N (cS (fun l => σ.1 (61 + 5 * σ.2.2 l) 5) k) (nI k) σ = some (cS (fun l => σ.1 (61 + 5 * σ.2.2 l) 5) 6, σ)
  | 0, k, N + 1, e, _ => by
    have : k = 6 := by omega
    subst this
    rw [fX5_countRules_L, if_pos (by decide)]
  | j + 1, k, N + 1, e, hN => by
    rw [fX5_countRules_L, if_neg (show ¬ (6 : Int32) ≤ nI k from nI_ge (a := k) (b := 6) (by omega) (by omega)), qix_nI (show k < 6 by omega) (by omega), nI_clamp (by omega), qlet_e, qtx_lt (h7 k (by omega)), qlet_e, qlet_e, nI_1]
    exact crC_run h7 j (k + 1) N (by omega) (by omega)
theorem crM_run {σ μ : St} {la : Nat} {a1 : Int32} (hla : la ≤ 6) (h37 : μ.1 0 37 = nI la) (hx : ∀ l, l < 6 → ∃ r v, r ≤ 12 ∧ v ≤ 1 ∧ σ.1 (61 + 5 * σ.2.2 l) 5 = nI r ∧ μ.1 8 l = nI v ∧ μ.1 9 (2 * l + v) = nI r ∧ (la ≤ l → r = 0)) : ∀ (j k N : Nat), j + k = la → j < N → fX6_count_L a1 N (cS (fun l => σ.1 (61 + 5 * σ.2.2 l) 5) k) (nI k) μ = some (cS (fun l => σ.1 (61 + 5 * σ.2.2 l) 5) la, μ)
  | 0, k, N + 1, e, _ => by
    have : k = la := by omega
    subst this
    rw [fX6_count_L, h37, if_pos (nI_le (Nat.le_refl _) (by omega))]
  | j + 1, k, N + 1, e, hN => by
    obtain ⟨r, v, h1, h2, h3, h4, h5, h6⟩ := hx k (by omega)
    have ih := crM_run (a1 := a1) hla h37 hx j (k + 1) N (by omega) (by omega)
    rw [cS, h3] at ih
    rw [fX6_count_L, h37, if_neg (nI_ge (by omega) (by omega)), qix_nI (show k < 6 by omega) (by omega), nI_clamp (by omega), h4, show (2 : Int32) = nI 2 from rfl, pk_mul, nI_add, qix_nI (show 2 * k + v < 12 by omega) (by omega), nI_clamp (by omega), h5, qlet_e, qlet_e, nI_1]
    exact ih
theorem p_count {σ μ : St} {mo la wn fn : Nat} (I : Inv σ μ mo la wn fn) (a1 : Int32) : ∃ r, fX5_count σ a1 = some (r, σ) ∧ fX6_count μ a1 = some (r, μ) := by
  obtain ⟨W, F, T, P, J, S, X⟩ := I
  obtain ⟨n, hn, t1, t2, t3⟩ := T
  have hla := W.2.1
  unfold fX5_count fX6_count
  by_cases h0 : a1 = 0
  · rw [if_pos h0, if_pos h0, W.2.2.2.2.1, W.2.2.2.2.2.1]
    exact ⟨_, rfl, rfl⟩
  · rw [if_neg h0, if_neg h0]
    by_cases h1 : a1 = 1
    · rw [if_pos h1, if_pos h1, W.2.2.1, W.2.2.2.1]
      exact ⟨_, rfl, rfl⟩
    · rw [if_neg h1, if_neg h1]
      by_cases h2 : a1 = 2
      · rw [if_pos h2, if_pos h2, F.2.2.1, F.2.2.2.1]
        exact ⟨_, rfl, rfl⟩
      · rw [if_neg h2, if_neg h2]
        by_cases h3 : a1 = 3
        · rw [if_pos h3, if_pos h3, F.2.2.2.2.1, F.2.2.2.2.2.1]
          exact ⟨_, rfl, rfl⟩
        · rw [if_neg h3, if_neg h3]
          by_cases h4 : a1 = 4
          · rw [if_pos h4, if_pos h4]
            have hC : fX5_countRules σ = some (cS (fun l => σ.1 (61 + 5 * σ.2.2 l) 5) 6, σ) := by
              unfold fX5_countRules
              exact crC_run (fun l hl => X.2.2.1 l (by omega)) 6 0 100000 (by omega) (by omega)
            have hM : fX6_count_L a1 100000 0 0 μ = some (cS (fun l => σ.1 (61 + 5 * σ.2.2 l) 5) la, μ) := crM_run hla W.2.2.2.2.2.1 X.2.1 la 0 100000 (by omega) (by omega)
            have hz : cS (fun l => σ.1 (61 + 5 * σ.2.2 l) 5) 6 = cS (fun l => σ.1 (61 + 5 * σ.2.2 l) 5) la := by
              have := cS_zero (r := fun l => σ.1 (61 + 5 * σ.2.2 l) 5) (m := la) (fun l h1 h2 => by
                obtain ⟨r, v, -, -, h3, -, -, h6⟩ := X.2.1 l h2
                show σ.1 (61 + 5 * σ.2.2 l) 5 = 0
                rw [h3, h6 h1]
                rfl) (6 - la) (by omega)
              rw [show la + (6 - la) = 6 by omega] at this
              exact this
            rw [hC, qcall_s, hM, hz]
            exact ⟨_, rfl, rfl⟩
          · rw [if_neg h4, if_neg h4]
            by_cases h5 : a1 = 5
            · rw [if_pos h5, if_pos h5, t1, t2]
              exact ⟨_, rfl, rfl⟩
            · rw [if_neg h5, if_neg h5]
              exact ⟨_, rfl, rfl⟩
