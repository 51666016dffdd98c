-- ===== land, cell =====
theorem p_land {σ μ : St} {mo la wn fn : Nat} (I : Inv σ μ mo la wn fn) (a1 a2 : Int32) : ∃ la' r σ' μ', fX5_land σ a1 a2 = some (r, σ') ∧ fX6_land μ a1 a2 = some (r, μ') ∧ Inv σ' μ' mo la' wn fn := by
  obtain ⟨W, F, -⟩ := id I
  obtain ⟨w1, w2, w3, w4, w5, w6, w7, w8, w9, w10, w11⟩ := id W
  unfold fX5_land fX6_land
  simp only [qlet, w5, w6]
  by_cases h1 : la < 6
  · rw [if_neg (show ¬ (6 : Int32) ≤ nI la from nI_ge (a := la) (b := 6) h1 (by omega)), if_neg (show ¬ nI la = 6 from fun q => absurd ((nI_eq (a := la) (b := 6) (by omega) (by omega)).mp q) (by omega))]
    by_cases h2 : a1 < -12
    · rw [if_pos h2, if_pos h2]
      exact ⟨la, _, σ, μ, rfl, rfl, I⟩
    · rw [if_neg h2, if_neg h2]
      by_cases h3 : (12 : Int32) < a1
      · rw [if_pos h3, if_pos h3]
        exact ⟨la, _, σ, μ, rfl, rfl, I⟩
      · rw [if_neg h3, if_neg h3, evC, evM, qcall_s, qcall_s]
        by_cases h4 : inN 400 a2
        · rw [b01_t h4, if10, if10, w6]
          have e1 : (sI μ 23 la a1).1 0 37 = nI la := by rw [sI_n _ _ _ _ (by omega)]; exact w6
          have e2 : (sI (sI μ 23 la a1) 24 la a2).1 0 37 = nI la := by rw [sI_n _ _ _ _ (by omega)]; exact e1
          have e3 : (sI (sI (sI (sI μ 23 la a1) 24 la a2) 0 37 (nI (la + 1))) 0 49 (-1)).1 0 37 = nI (la + 1) := by rw [sI_s, upd_n _ _ (by omega), sI_s, upd_s]
          simp only [qix_nI h1 (show 6 ≤ 2 ^ 31 by omega), nI_clamp (show la < 2 ^ 31 by omega), nI_1, e1, e2, e3, nI_m1]
          rw [forget_is, qcall_s]
          obtain ⟨k1, k2, k3, k4⟩ := forget_keep (sI (sI (sI σ 4 la a1) 5 la a2) 2 7 (nI (la + 1)))
          have c : ∀ i, i ≠ 21 → i ≠ 36 → i ≠ 2 → i ≠ 4 → i ≠ 5 → (sI (sI (sI (sI (sI σ 4 la a1) 5 la a2) 2 7 (nI (la + 1))) 21 8 (-1)) 36 9 (-1)).1 i = σ.1 i := fun i q1 q2 q3 q4 q5 => by rw [k1 i q1 q2, sI_n _ _ _ _ q3, sI_n _ _ _ _ q5, sI_n _ _ _ _ q4]
          have g : ∀ i, 1 ≤ i → i ≠ 23 → i ≠ 24 → (sI (sI (sI (sI μ 23 la a1) 24 la a2) 0 37 (nI (la + 1))) 0 49 (-1)).1 i = μ.1 i := fun i q1 q2 q3 => by rw [sI_n _ _ _ _ (by omega), sI_n _ _ _ _ (by omega), sI_n _ _ _ _ q3, sI_n _ _ _ _ q2]
          have g0 : ∀ i, i ≠ 37 → i ≠ 49 → (sI (sI (sI (sI μ 23 la a1) 24 la a2) 0 37 (nI (la + 1))) 0 49 (-1)).1 0 i = μ.1 0 i := fun i q1 q2 => by rw [sI_s, upd_n _ _ q2, sI_s, upd_n _ _ q1, sI_n _ _ _ _ (by omega), sI_n _ _ _ _ (by omega)]
          refine ⟨la + 1, nI la, _, _, rfl, rfl, I.world ?_ (by omega) (fun i hi => c i (by omega) (by omega) (by omega) (by omega) (by omega)) ?_ ?_ rfl (fun i q hi => g i q (by omega) (by omega)) (fun i q1 q2 q3 => g0 i q2 q3) k3 k4 (by rw [sI_s, upd_s])⟩
          · refine ⟨w1, by omega, ?_, by rw [g0 35 (by omega) (by omega)]; exact w4, ?_, e3, fun k hk => ?_, fun l hl => ?_, fun l hl => ?_, fun l i hl hi => ?_, fun f t hf ht => ?_⟩
            · rw [k1 2 (by omega) (by omega), sI_s, upd_n _ _ (by omega), sI_n _ _ _ _ (by omega), sI_n _ _ _ _ (by omega)]
              exact w3
            · rw [k1 2 (by omega) (by omega), sI_s, upd_s]
            · rw [c 3 (by omega) (by omega) (by omega) (by omega) (by omega), g 22 (by omega) (by omega) (by omega)]
              exact w7 k hk
            · have e23 : (sI (sI (sI (sI μ 23 la a1) 24 la a2) 0 37 (nI (la + 1))) 0 49 (-1)).1 23 = upd (μ.1 23) la a1 := by rw [sI_n _ _ _ _ (by omega), sI_n _ _ _ _ (by omega), sI_n _ _ _ _ (by omega), sI_s]
              have e24 : (sI (sI (sI (sI μ 23 la a1) 24 la a2) 0 37 (nI (la + 1))) 0 49 (-1)).1 24 = upd (μ.1 24) la a2 := by rw [sI_n _ _ _ _ (by omega), sI_n _ _ _ _ (by omega), sI_s, sI_n _ _ _ _ (by omega)]
              have x4 : (sI (sI (sI (sI (sI σ 4 la a1) 5 la a2) 2 7 (nI (la + 1))) 21 8 (-1)) 36 9 (-1)).1 4 = upd (σ.1 4) la a1 := by rw [k1 4 (by omega) (by omega), sI_n _ _ _ _ (by omega), sI_n _ _ _ _ (by omega), sI_s]
              have x5 : (sI (sI (sI (sI (sI σ 4 la a1) 5 la a2) 2 7 (nI (la + 1))) 21 8 (-1)) 36 9 (-1)).1 5 = upd (σ.1 5) la a2 := by rw [k1 5 (by omega) (by omega), sI_n _ _ _ _ (by omega), sI_s, sI_n _ _ _ _ (by omega)]
              rw [e23, e24, x4, x5]
              by_cases q : l = la
              · subst q
                rw [upd_s, upd_s, upd_s, upd_s]
                have em : (-12 : Int32).toInt = -12 := by decide
                have ep : (12 : Int32).toInt = 12 := by decide
                rw [fa_lt, em] at h2
                rw [fa_lt, ep] at h3
                obtain ⟨e, he, rfl⟩ := h4
                exact ⟨rfl, by omega, by omega, rfl, e, he, rfl⟩
              · rw [upd_n _ _ q, upd_n _ _ q, upd_n _ _ q, upd_n _ _ q]
                exact w8 l (by omega)
            · rw [c 13 (by omega) (by omega) (by omega) (by omega) (by omega), g 25 (by omega) (by omega) (by omega)]
              exact w9 l hl
            · rw [c (7 + l) (by omega) (by omega) (by omega) (by omega) (by omega), g 26 (by omega) (by omega) (by omega)]
              exact w10 l i hl hi
            · rw [c (15 + f) (by omega) (by omega) (by omega) (by omega) (by omega), g 27 (by omega) (by omega) (by omega)]
              exact w11 f t hf ht
          · rw [k2 6 (by omega), sI_n _ _ _ _ (by omega), sI_n _ _ _ _ (by omega), sI_n _ _ _ _ (by omega)]
          · rw [k2 7 (by omega), sI_n _ _ _ _ (by omega), sI_n _ _ _ _ (by omega), sI_n _ _ _ _ (by omega)]
        · rw [b01_f h4, if00, if00]
          exact ⟨la, _, σ, μ, rfl, rfl, I⟩
  · have : la = 6 := by omega
    subst this
    rw [if_pos (show (6 : Int32) ≤ nI 6 by decide), if_pos (show nI 6 = 6 from rfl)]
    exact ⟨6, _, σ, μ, rfl, rfl, I⟩
theorem p_place {σ μ : St} {mo la wn fn : Nat} (I : Inv σ μ mo la wn fn) : ∃ r, fX5_place σ = some (r, σ) ∧ fX6_place μ = some (r, μ) := by
  obtain ⟨W, F, T, P, -⟩ := I
  unfold fX5_place fX6_place
  rw [P]
  exact ⟨_, rfl, rfl⟩
