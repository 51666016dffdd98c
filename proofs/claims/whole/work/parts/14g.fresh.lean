-- ===== the fresh states =====
def wdV (r : Int64) (x : Int32) : Int64 := if x = (0 : Int32) then r else ((27 : Int64) * r) + ((x - (97 : Int32)) + (1 : Int32)).toInt64
theorem more_e (σ : St) (r : Int64) (x : Int32) : fX6_more σ r x = some (wdV r x, σ) := by
  unfold fX6_more wdV
  rw [qlet_e]
  by_cases h : x = (0 : Int32)
  · rw [if_pos h, if_pos h]
  · rw [if_neg h, if_neg h]
theorem word_e (σ : St) (a0 a1 a2 a3 a4 a5 a6 : Int32) : fX6_word σ a0 a1 a2 a3 a4 a5 a6 = some (wdV (wdV (wdV (wdV (wdV (wdV (wdV 0 a0) a1) a2) a3) a4) a5) a6, σ) := by
  unfold fX6_word
  rw [more_e, qcall_s, more_e, qcall_s, more_e, qcall_s, more_e, qcall_s, more_e, qcall_s, more_e, qcall_s, more_e, qcall_s]
theorem qix_p {β : Type} {i : Int32} {n : Nat} {b : Option β} (h : 0 ≤ i ∧ i.toNatClampNeg < n) : qix i n b = b := if_pos h
theorem rem7 : ∀ k, k < 36 → ((nI k - nI k / (7 : Int32) * (7 : Int32)) = (0 : Int32) ↔ k % 7 = 0) := by decide +kernel
theorem ini1 {N : Nat} : ∀ (j k : Nat) (σ : St), k + j = 6 → ∃ σ', fX6_init_L (N + (j + 1)) 1 (nI k) σ = some (0, σ') ∧ (∀ c, c ≠ 25 → σ'.1 c = σ.1 c) ∧ σ'.2 = σ.2 ∧ (∀ i, i < k → σ'.1 25 i = σ.1 25 i) ∧ ∀ i, k ≤ i → i < 6 → σ'.1 25 i = -1
  | 0, k, σ, e => by
    have ek : k = 6 := by omega
    subst ek
    refine ⟨σ, ?_, fun _ _ => rfl, rfl, fun _ _ => rfl, fun i h1 h2 => absurd h2 (by omega)⟩
    show fX6_init_L (N + 1) 1 (nI 6) σ = _
    rw [fX6_init_L, if_neg (show ¬ (1 : Nat) = 0 by decide), if_pos (show (6 : Int32) ≤ nI 6 by decide)]
  | j + 1, k, σ, e => by
    obtain ⟨σ', h1, h2, h3, h4, h5⟩ := ini1 (N := N) j (k + 1) (sI σ 25 k (-1)) (by omega)
    refine ⟨σ', ?_, fun c hc => ?_, h3, fun i hi => ?_, fun i hi1 hi2 => ?_⟩
    · show fX6_init_L ((N + (j + 1)) + 1) 1 (nI k) σ = _
      rw [fX6_init_L, if_neg (show ¬ (1 : Nat) = 0 by decide), if_neg (show ¬ (6 : Int32) ≤ nI k from nI_ge (b := 6) (by omega) (by omega)), qix_nI (show k < 6 by omega) (by omega), nI_clamp (show k < 2 ^ 31 by omega), qlet_e, qlet_e, nI_1]
      exact h1
    · rw [h2 c hc, sI_n _ _ _ _ hc]
    · rw [h4 i (by omega), sI_s, upd_n _ _ (by omega)]
    · by_cases q : i = k
      · subst q
        rw [h4 i (by omega), sI_s, upd_s]
      · exact h5 i (by omega) hi2
theorem ini0 {N : Nat} : ∀ (j k : Nat) (σ : St), k + j = 36 → ∃ σ', fX6_init_L (N + (j + 1)) 0 (nI k) σ = fX6_init_L N 1 0 σ' ∧ (∀ c, c ≠ 27 → σ'.1 c = σ.1 c) ∧ σ'.2 = σ.2 ∧ (∀ i, i < k → σ'.1 27 i = σ.1 27 i) ∧ ∀ i, k ≤ i → i < 36 → σ'.1 27 i = if i % 7 = 0 then 0 else -1
  | 0, k, σ, e => by
    have ek : k = 36 := by omega
    subst ek
    refine ⟨σ, ?_, fun _ _ => rfl, rfl, fun _ _ => rfl, fun i h1 h2 => absurd h2 (by omega)⟩
    show fX6_init_L (N + 1) 0 (nI 36) σ = _
    rw [fX6_init_L, if_pos rfl, if_pos (show (36 : Int32) ≤ nI 36 by decide)]
  | j + 1, k, σ, e => by
    obtain ⟨σ', h1, h2, h3, h4, h5⟩ := ini0 (N := N) j (k + 1) (sI σ 27 k (if k % 7 = 0 then 0 else -1)) (by omega)
    refine ⟨σ', ?_, fun c hc => ?_, h3, fun i hi => ?_, fun i hi1 hi2 => ?_⟩
    · show fX6_init_L ((N + (j + 1)) + 1) 0 (nI k) σ = _
      rw [fX6_init_L, if_pos rfl, if_neg (show ¬ (36 : Int32) ≤ nI k from nI_ge (b := 36) (by omega) (by omega)), show ∀ b : Option (Int32 × St), qnz (7 : Int32) b = b from fun b => if_neg (by decide), qlet_e]
      rw [← h1]
      by_cases q : k % 7 = 0
      · rw [if_pos ((rem7 k (by omega)).mpr q), if_pos q]
        dsimp only
        rw [qix_nI (show k < 36 by omega) (by omega), nI_clamp (show k < 2 ^ 31 by omega), qlet_e, qlet_e, nI_1]
      · rw [if_neg (fun h => q ((rem7 k (by omega)).mp h)), if_neg q]
        dsimp only
        rw [qix_nI (show k < 36 by omega) (by omega), nI_clamp (show k < 2 ^ 31 by omega), qlet_e, qlet_e, nI_1]
    · rw [h2 c hc, sI_n _ _ _ _ hc]
    · rw [h4 i (by omega), sI_s, upd_n _ _ (by omega)]
    · by_cases q : i = k
      · subst q
        rw [h4 i (by omega), sI_s, upd_s]
      · exact h5 i (by omega) hi2
theorem ini_gen {N : Nat} (hN : 44 ≤ N) (σ : St) : ∃ σ', fX6_init_L N 0 0 σ = some (0, σ') ∧ (∀ c, c ≠ 27 → c ≠ 25 → σ'.1 c = σ.1 c) ∧ σ'.2 = σ.2 ∧ (∀ i, i < 36 → σ'.1 27 i = if i % 7 = 0 then 0 else -1) ∧ ∀ i, i < 6 → σ'.1 25 i = -1 := by
  obtain ⟨M, rfl⟩ : ∃ M, N = (M + (6 + 1)) + (36 + 1) := ⟨N - 44, by omega⟩
  obtain ⟨σ1, h1, h2, h3, -, h5⟩ := ini0 (N := M + (6 + 1)) 36 0 σ (by omega)
  obtain ⟨σ2, g1, g2, g3, -, g5⟩ := ini1 (N := M) 6 0 σ1 (by omega)
  refine ⟨σ2, ?_, fun c c1 c2 => (g2 c c2).trans (h2 c c1), g3.trans h3, fun i hi => ?_, fun i hi => g5 i (by omega) hi⟩
  · rw [show (0 : Int32) = nI 0 from rfl] at *
    exact h1.trans g1
  · rw [g2 27 (by decide)]
    exact h5 i (by omega) hi
set_option maxRecDepth 100000 in
theorem ini_words : ∃ μ2, fX6_init μ1 = fX6_init_L 100000 0 0 μ2 ∧ μ2.1 = μ1.1 ∧ Keys μ2 := by
  have h : ∃ μ2, fX6_init μ1 = fX6_init_L 100000 0 0 μ2 ∧ μ2 = (sJ (sJ (sJ (sJ (sJ (sJ (sJ (sJ (sJ (sJ (sJ (sJ (sJ (sJ μ1 7 (0 : Int32).toNatClampNeg (wdV (wdV (wdV (wdV (wdV (wdV (wdV 0 98) 101) 103) 105) 110) 0) 0)) 7 (1 : Int32).toNatClampNeg (wdV (wdV (wdV (wdV (wdV (wdV (wdV 0 110) 111) 116) 0) 0) 0) 0)) 7 (2 : Int32).toNatClampNeg (wdV (wdV (wdV (wdV (wdV (wdV (wdV 0 98) 97) 99) 107) 0) 0) 0)) 7 (3 : Int32).toNatClampNeg (wdV (wdV (wdV (wdV (wdV (wdV (wdV 0 105) 102) 0) 0) 0) 0) 0)) 7 (4 : Int32).toNatClampNeg (wdV (wdV (wdV (wdV (wdV (wdV (wdV 0 111) 114) 0) 0) 0) 0) 0)) 7 (5 : Int32).toNatClampNeg (wdV (wdV (wdV (wdV (wdV (wdV (wdV 0 97) 110) 100) 0) 0) 0) 0)) 7 (6 : Int32).toNatClampNeg (wdV (wdV (wdV (wdV (wdV (wdV (wdV 0 100) 97) 121) 115) 0) 0) 0)) 7 (7 : Int32).toNatClampNeg (wdV (wdV (wdV (wdV (wdV (wdV (wdV 0 115) 101) 101) 110) 0) 0) 0)) 7 (8 : Int32).toNatClampNeg (wdV (wdV (wdV (wdV (wdV (wdV (wdV 0 119) 111) 114) 116) 104) 0) 0)) 7 (9 : Int32).toNatClampNeg (wdV (wdV (wdV (wdV (wdV (wdV (wdV 0 98) 101) 115) 116) 0) 0) 0)) 7 (10 : Int32).toNatClampNeg (wdV (wdV (wdV (wdV (wdV (wdV (wdV 0 108) 105) 103) 104) 116) 0) 0)) 7 (11 : Int32).toNatClampNeg (wdV (wdV (wdV (wdV (wdV (wdV (wdV 0 99) 108) 111) 117) 100) 0) 0)) 7 (12 : Int32).toNatClampNeg (wdV (wdV (wdV (wdV (wdV (wdV (wdV 0 111) 116) 104) 101) 114) 115) 0)) 7 (13 : Int32).toNatClampNeg (wdV (wdV (wdV (wdV (wdV (wdV (wdV 0 109) 111) 110) 116) 104) 0) 0)) := by
    refine ⟨_, ?_, rfl⟩
    unfold fX6_init
    rw [word_e, qcall_s, qix_p (by decide), qlet_e]
    rw [word_e, qcall_s, qix_p (by decide), qlet_e]
    rw [word_e, qcall_s, qix_p (by decide), qlet_e]
    rw [word_e, qcall_s, qix_p (by decide), qlet_e]
    rw [word_e, qcall_s, qix_p (by decide), qlet_e]
    rw [word_e, qcall_s, qix_p (by decide), qlet_e]
    rw [word_e, qcall_s, qix_p (by decide), qlet_e]
    rw [word_e, qcall_s, qix_p (by decide), qlet_e]
    rw [word_e, qcall_s, qix_p (by decide), qlet_e]
    rw [word_e, qcall_s, qix_p (by decide), qlet_e]
    rw [word_e, qcall_s, qix_p (by decide), qlet_e]
    rw [word_e, qcall_s, qix_p (by decide), qlet_e]
    rw [word_e, qcall_s, qix_p (by decide), qlet_e]
    rw [word_e, qcall_s, qix_p (by decide), qlet_e]
  obtain ⟨μ2, h, rfl⟩ := h
  refine ⟨_, h, rfl, ?_⟩
  unfold Keys
  decide +kernel
def σ5 : St := (fun c => if c = 0 then (fun k => if k = 2 then -1 else 0) else if c = 15 then (upd (upd (upd (upd (upd (upd (fun _ => 0) 0 0) 1 1000000) 2 1000000) 3 1000000) 4 1000000) 5 1000000) else if c = 16 then (upd (upd (upd (upd (upd (upd (fun _ => 0) 0 1000000) 1 0) 2 1000000) 3 1000000) 4 1000000) 5 1000000) else if c = 17 then (upd (upd (upd (upd (upd (upd (fun _ => 0) 0 1000000) 1 1000000) 2 0) 3 1000000) 4 1000000) 5 1000000) else if c = 18 then (upd (upd (upd (upd (upd (upd (fun _ => 0) 0 1000000) 1 1000000) 2 1000000) 3 0) 4 1000000) 5 1000000) else if c = 19 then (upd (upd (upd (upd (upd (upd (fun _ => 0) 0 1000000) 1 1000000) 2 1000000) 3 1000000) 4 0) 5 1000000) else if c = 20 then (upd (upd (upd (upd (upd (upd (fun _ => 0) 0 1000000) 1 1000000) 2 1000000) 3 1000000) 4 1000000) 5 0) else if c = 21 then (fun k => if k = 8 then -1 else 0) else if c = 34 then (fun k => if k = 5 then 25 else 0) else if c = 36 then (fun k => if k = 9 then -1 else 0) else fun _ => 0, fun _ _ => 0, fun i => i)
theorem σ5z {c : Nat} (h : 1 ≤ c ∧ c < 15 ∨ 21 < c ∧ c < 34 ∨ 36 < c) : σ5.1 c = fun _ => 0 := by
  show (if c = 0 then _ else _) = _
  rw [if_neg (by omega), if_neg (by omega), if_neg (by omega), if_neg (by omega), if_neg (by omega), if_neg (by omega), if_neg (by omega), if_neg (by omega), if_neg (by omega), if_neg (by omega)]
theorem σ5t : ∀ f, f < 6 → ∀ t, t < 6 → σ5.1 (15 + f) t = if f = t then 0 else 1000000 := by decide +kernel
theorem fresh : ∃ μ0, fX6_init μ1 = some (0, μ0) ∧ Inv σ5 μ0 0 0 0 0 := by
  obtain ⟨μ2, h1, h2, h3⟩ := ini_words
  obtain ⟨μ0, g1, g2, g3, g4, g5⟩ := ini_gen (N := 100000) (by decide) μ2
  have z : ∀ c, c ≠ 27 → c ≠ 25 → μ0.1 c = μ1.1 c := fun c a b => by rw [g2 c a b, h2]
  have z0 : μ0.1 0 = fun k => if k = 17 then -1 else if k = 49 then -1 else 0 := z 0 (by decide) (by decide)
  have zz : ∀ c, c ≠ 0 → c ≠ 27 → c ≠ 25 → μ0.1 c = fun _ => 0 := fun c a b d => by
    rw [z c b d]
    exact if_neg a
  have hk : Keys μ0 := fun k hk => by
    rw [show μ0.2 = μ2.2 from g3]
    exact h3 k hk
  refine ⟨μ0, by rw [h1]; exact g1, ?_, ?_, ?_, ?_, ?_, ?_, ?_⟩
  · refine ⟨by decide, by decide, rfl, by rw [z0]; rfl, rfl, by rw [z0]; rfl, fun k hk => absurd hk (by omega), fun k hk => absurd hk (by omega), fun l hl => ?_, fun l i hl hi => ?_, fun f t hf ht => ?_⟩
    · exact Or.inl ⟨by rw [σ5z (by omega)], g5 l hl⟩
    · rw [σ5z (by omega), zz 26 (by decide) (by decide) (by decide)]
    · rw [σ5t f hf t ht, g4 (6 * f + t) (by omega)]
      by_cases q : f = t
      · rw [if_pos q, if_pos (by omega)]
        exact Or.inr ⟨0, by decide, rfl, rfl⟩
      · rw [if_neg q, if_neg (by omega)]
        exact Or.inl ⟨rfl, rfl⟩
  · refine ⟨by decide, by decide, rfl, by rw [z0]; rfl, rfl, by rw [z0]; rfl, fun k hk => absurd hk (by omega), fun k hk => absurd hk (by omega), fun l d hl hd => ?_⟩
    rw [σ5z (by omega)]
    rfl
  · exact ⟨0, by decide, rfl, by rw [z0]; rfl, fun k hk => absurd hk (by omega)⟩
  · rw [z0]; rfl
  · exact Or.inl rfl
  · exact ⟨by rw [z0]; rfl, Or.inl rfl⟩
  · refine ⟨fun l hl => ?_, fun l hl => ?_, fun i hi => hi, fun i j hi hj e => e, hk⟩
    · refine ⟨show l < 7 by omega, 0, fun _ => (0, []), 0, by decide, by rw [zz 8 (by decide) (by decide) (by decide)]; rfl, ⟨by decide, fun r hr => absurd hr (by omega)⟩, ⟨?_, fun r hr => absurd hr (by omega)⟩, ⟨by rw [zz 9 (by decide) (by decide) (by decide)]; rfl, fun r hr => absurd hr (by omega)⟩⟩
      show σ5.1 (61 + 5 * l) 5 = nI 0
      rw [σ5z (by omega)]
      rfl
    · refine ⟨0, 0, by decide, by decide, ?_, by rw [zz 8 (by decide) (by decide) (by decide)]; rfl, by rw [zz 9 (by decide) (by decide) (by decide)]; rfl, fun _ => rfl⟩
      show σ5.1 (61 + 5 * l) 5 = nI 0
      rw [σ5z (by omega)]
      rfl
