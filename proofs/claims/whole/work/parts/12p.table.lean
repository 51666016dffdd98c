-- ===== table =====
theorem fFillB_run {id n : Nat} (hn : n ≤ 1000) : ∀ (j k m : Nat) (σ : St), j + k = n → j < m → (∀ i, i < k → σ.1 id i = 0) → ∃ σ', fFillB_L id n 0 m (nI k) σ = some (0, σ') ∧ (∀ i, i < n → σ'.1 id i = 0) ∧ (∀ i, i ≠ id → σ'.1 i = σ.1 i) ∧ σ'.2 = σ.2
  | 0, k, m + 1, σ, e, _, h => by
    have : k = n := by omega
    subst this
    rw [fFillB_L, if_pos (show Int32.ofNat k ≤ nI k from nI_le (Nat.le_refl _) (by omega))]
    exact ⟨σ, rfl, h, fun _ _ => rfl, rfl⟩
  | j + 1, k, m + 1, σ, e, hm, h => by
    rw [fFillB_L, if_neg (show ¬ Int32.ofNat n ≤ nI k from nI_ge (by omega) (by omega)), qix_nI (show k < n by omega) (by omega), nI_clamp (by omega), show vp_nar .byte (0 : Int32) = 0 from rfl]
    simp only [qlet, nI_1]
    obtain ⟨σ', a1, a2, a3, a4⟩ := fFillB_run hn j (k + 1) m (sI σ id k 0) (by omega) (by omega) (fun i hi => by
      rw [sI_s]
      by_cases q : i = k
      · rw [q, upd_s]
      · rw [upd_n _ _ q]
        exact h i (by omega))
    exact ⟨σ', a1, a2, fun i hi => by rw [a3 i hi, sI_n _ _ _ _ hi], a4⟩
theorem fFillB_is (σ : St) (id : Nat) {n : Nat} (hn : n ≤ 1000) : ∃ σ', fFillB σ id n 0 = some (0, σ') ∧ (∀ i, i < n → σ'.1 id i = 0) ∧ (∀ i, i ≠ id → σ'.1 i = σ.1 i) ∧ σ'.2 = σ.2 := by
  unfold fFillB
  exact fFillB_run hn n 0 100000 σ (by omega) (by omega) (fun i hi => absurd hi (by omega))
theorem tabM_run {l : Nat} {a2 : Int32} (hl : l < 6) : ∀ (j k N : Nat) (μ : St), j + k = 60 → j < N → ∃ μ', fX6_table_L (nI l) a2 N (nI k) μ = some (1, sI μ' 0 49 (-1)) ∧ (∀ x, μ'.1 26 x = if 60 * l + k ≤ x ∧ x < 60 * l + 60 then 0 else μ.1 26 x) ∧ (∀ i, i ≠ 26 → μ'.1 i = μ.1 i) ∧ μ'.2 = μ.2
  | 0, k, N + 1, μ, e, _ => by
    have : k = 60 := by omega
    subst this
    rw [fX6_table_L, if_pos (by decide), qlet_e]
    exact ⟨μ, rfl, fun x => by rw [if_neg (by omega)], fun _ _ => rfl, rfl⟩
  | j + 1, k, N + 1, μ, e, hN => by
    rw [fX6_table_L, if_neg (show ¬ (60 : Int32) ≤ nI k from nI_ge (a := k) (b := 60) (by omega) (by omega)), show (60 : Int32) = nI 60 from rfl, pk_mul, nI_add, qix_nI (show 60 * l + k < 360 by omega) (by omega), nI_clamp (by omega), qlet_e, qlet_e, nI_1]
    obtain ⟨μ', a1, a3, a4, a5⟩ := tabM_run (a2 := a2) hl j (k + 1) N (sI μ 26 (60 * l + k) 0) (by omega) (by omega)
    refine ⟨μ', a1, fun x => ?_, fun i hi => by rw [a4 i hi, sI_n _ _ _ _ hi], a5⟩
    rw [a3 x, sI_s]
    by_cases q : x = 60 * l + k
    · subst q
      rw [if_neg (by omega), upd_s, if_pos (by omega)]
    · rw [upd_n _ _ q]
      by_cases q2 : 60 * l + (k + 1) ≤ x ∧ x < 60 * l + 60
      · rw [if_pos q2, if_pos (by omega)]
      · rw [if_neg q2, if_neg (by omega)]
theorem tabM_do {μ : St} {la l : Nat} {a2 : Int32} (h : μ.1 0 37 = nI la) (hla : la ≤ 6) (hl : l < la) (ha : a2 = -1 ∨ (¬ a2 < 1 ∧ a2 ≤ 60)) : ∃ μ', fX6_table μ (nI l) a2 = some (1, sI μ' 0 49 (-1)) ∧ (∀ x, μ'.1 26 x = if 60 * l ≤ x ∧ x < 60 * l + 60 then 0 else μ.1 26 x) ∧ μ'.1 25 = upd (μ.1 25) l a2 ∧ (∀ i, i ≠ 25 → i ≠ 26 → μ'.1 i = μ.1 i) ∧ μ'.2 = μ.2 := by
  have e : fX6_table μ (nI l) a2 = fX6_table_L (nI l) a2 100000 0 (sI μ 25 l a2) := by
    unfold fX6_table
    rw [isLandM h hla, qcall_s, b01_t ⟨l, hl, rfl⟩, qlet_e, if10, qlet_e, qix_nI (show l < 6 by omega) (by omega), nI_clamp (by omega), qlet_e]
    rcases ha with q | ⟨q1, q2⟩
    · rw [if_pos q]
    · by_cases q3 : a2 = -1
      · rw [if_pos q3]
      · rw [if_neg q3, if_neg q1, if_pos q2]
  obtain ⟨μ', a1, a3, a4, a5⟩ := tabM_run (l := l) (a2 := a2) (show l < 6 by omega) 60 0 100000 (sI μ 25 l a2) (by omega) (by omega)
  rw [nI_0] at a1
  refine ⟨μ', e.trans a1, fun x => ?_, by rw [a4 25 (by omega), sI_s], fun i h1 h2 => by rw [a4 i h2, sI_n _ _ _ _ h1], a5⟩
  rw [a3 x, sI_n _ _ _ _ (by omega)]
  rfl
theorem tabM_no {μ : St} {la : Nat} {a1 a2 : Int32} (h : μ.1 0 37 = nI la) (hla : la ≤ 6) (hn : ¬ (inN la a1 ∧ (a2 = -1 ∨ (¬ a2 < 1 ∧ a2 ≤ 60)))) : fX6_table μ a1 a2 = some (0, μ) := by
  unfold fX6_table
  rw [isLandM h hla, qcall_s, qlet_e]
  by_cases q1 : inN la a1
  · rw [b01_t q1, if10, qlet_e, if_neg (fun z => hn ⟨q1, Or.inl z⟩)]
    by_cases q2 : a2 < 1
    · rw [if_pos q2]
      rfl
    · rw [if_neg q2, if_neg (fun z => hn ⟨q1, Or.inr ⟨q2, z⟩⟩)]
      rfl
  · rw [b01_f q1, if00]
    rfl
theorem tabC_no {σ : St} {la : Nat} {a1 a2 : Int32} (h : σ.1 2 7 = nI la) (hla : la ≤ 6) (hn : ¬ (inN la a1 ∧ ¬ a2 = 0 ∧ ¬ a2 < -1 ∧ a2 ≤ 60)) : fX5_table σ a1 a2 = some (0, σ) := by
  unfold fX5_table
  rw [isLandC h hla, qcall_s, qlet_e]
  by_cases q1 : inN la a1
  · rw [b01_t q1, if10]
    by_cases q2 : a2 = 0
    · rw [if_pos q2]
      rfl
    · rw [if_neg q2]
      by_cases q3 : a2 < -1
      · rw [if_pos q3]
        rfl
      · rw [if_neg q3, if_neg (fun z => hn ⟨q1, q2, q3, z⟩)]
        rfl
  · rw [b01_f q1, if00]
    rfl
