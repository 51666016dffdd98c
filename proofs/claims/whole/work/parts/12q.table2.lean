-- ===== table, both =====
theorem p_table {σ μ : St} {mo la wn fn : Nat} (I : Inv σ μ mo la wn fn) (a1 a2 : Int32) : ∃ r σ' μ', fX5_table σ a1 a2 = some (r, σ') ∧ fX6_table μ a1 a2 = some (r, μ') ∧ Inv σ' μ' mo la wn fn := by
  obtain ⟨W, F, -⟩ := id I
  have hla := W.2.1
  obtain ⟨w1, w2, w3, w4, w5, w6, w7, w8, w9, w10, w11⟩ := id W
  have z0 : (0 : Int32).toInt = 0 := by decide
  have z1 : (1 : Int32).toInt = 1 := by decide
  have zm : (-1 : Int32).toInt = -1 := by decide
  have z60 : (60 : Int32).toInt = 60 := by decide
  have hiff : (¬ a2 = 0 ∧ ¬ a2 < -1 ∧ a2 ≤ 60) ↔ (a2 = -1 ∨ (¬ a2 < 1 ∧ a2 ≤ 60)) := by
    rw [fa_eq, fa_eq, fa_lt, fa_lt, fa_le, z0, z1, zm, z60]
    omega
  by_cases h : inN la a1 ∧ (a2 = -1 ∨ (¬ a2 < 1 ∧ a2 ≤ 60))
  · obtain ⟨⟨l, hl, rfl⟩, ha⟩ := id h
    obtain ⟨q1, q2, q3⟩ := hiff.mpr ha
    obtain ⟨μ1, m1, m2, m3, m4, m5⟩ := tabM_do w6 hla hl ha
    obtain ⟨σ1, s1, s2, s3, s4⟩ := fFillB_is σ (7 + l) (n := 60) (by omega)
    have hC : ∃ y : Int32, ((y = 0 ∧ a2 = -1) ∨ ∃ c, 1 ≤ c ∧ c ≤ 60 ∧ y = nI c ∧ a2 = nI c) ∧ fX5_table σ (nI l) a2 = some (1, sI (sI (sI σ1 13 l y) 21 8 (-1)) 36 9 (-1)) := by
      have base : fX5_table σ (nI l) a2 = if a2 = -1 then some ((1 : Int32), sI (sI (sI σ1 13 l 0) 21 8 (-1)) 36 9 (-1)) else some (1, sI (sI (sI σ1 13 l a2) 21 8 (-1)) 36 9 (-1)) := by
        unfold fX5_table
        rw [isLandC w5 hla, qcall_s, b01_t ⟨l, hl, rfl⟩]
        simp only [qlet, if10]
        rw [if_neg q1, if_neg q2, if_pos q3, qix_nI (show l < 6 by omega) (by omega), nI_clamp (by omega), s1, qcall_s]
        simp only [qix_nI (show l < 6 by omega) (show 6 ≤ 2 ^ 31 by omega), forget_is, qcall_s, qzz_1]
      by_cases q : a2 = -1
      · exact ⟨0, Or.inl ⟨rfl, q⟩, by rw [base, if_pos q]⟩
      · refine ⟨a2, Or.inr ?_, by rw [base, if_neg q]⟩
        obtain ⟨p1, p2⟩ := ha.resolve_left q
        rw [fa_lt, z1] at p1
        rw [fa_le, z60] at p2
        have e : a2 = nI a2.toInt.toNat := (fa_eq _ _).mpr (by rw [nI_toInt (by omega)]; omega)
        exact ⟨a2.toInt.toNat, by omega, by omega, e, e⟩
    obtain ⟨y, hy, hC⟩ := hC
    rw [hC, m1]
    obtain ⟨k1, k2, k3, k4⟩ := forget_keep (sI σ1 13 l y)
    have c : ∀ i, i ≠ 21 → i ≠ 36 → i ≠ 13 → i ≠ 7 + l → (sI (sI (sI σ1 13 l y) 21 8 (-1)) 36 9 (-1)).1 i = σ.1 i := fun i p1 p2 p3 p4 => by rw [k1 i p1 p2, sI_n _ _ _ _ p3, s3 i p4]
    have g : ∀ i, 1 ≤ i → i ≠ 25 → i ≠ 26 → (sI μ1 0 49 (-1)).1 i = μ.1 i := fun i p1 p2 p3 => by rw [sI_n _ _ _ _ (by omega), m4 i p2 p3]
    have g0 : ∀ i, i ≠ 49 → (sI μ1 0 49 (-1)).1 0 i = μ.1 0 i := fun i p => by rw [sI_s, upd_n _ _ p, m4 0 (by omega) (by omega)]
    refine ⟨1, _, _, rfl, rfl, I.world ?_ (Nat.le_refl la) (fun i hi => c i (by omega) (by omega) (by omega) (by omega)) ?_ ?_ s4 (fun i q hi => g i q (by omega) (by omega)) (fun i _ _ p3 => g0 i p3) k3 k4 (by rw [sI_s, upd_s]) m5⟩
    · refine ⟨w1, w2, by rw [c 2 (by omega) (by omega) (by omega) (by omega)]; exact w3, by rw [g0 35 (by omega)]; exact w4, by rw [c 2 (by omega) (by omega) (by omega) (by omega)]; exact w5, by rw [g0 37 (by omega)]; exact w6, fun k hk => ?_, fun x hx => ?_, fun x hx => ?_, fun x i hx hi => ?_, fun f t hf ht => ?_⟩
      · rw [c 3 (by omega) (by omega) (by omega) (by omega), g 22 (by omega) (by omega) (by omega)]
        exact w7 k hk
      · rw [c 4 (by omega) (by omega) (by omega) (by omega), c 5 (by omega) (by omega) (by omega) (by omega), g 23 (by omega) (by omega) (by omega), g 24 (by omega) (by omega) (by omega)]
        exact w8 x hx
      · have e13 : (sI (sI (sI σ1 13 l y) 21 8 (-1)) 36 9 (-1)).1 13 = upd (σ.1 13) l y := by rw [k1 13 (by omega) (by omega), sI_s, s3 13 (by omega)]
        have e25 : (sI μ1 0 49 (-1)).1 25 = upd (μ.1 25) l a2 := by rw [sI_n _ _ _ _ (by omega), m3]
        rw [e13, e25]
        by_cases q : x = l
        · subst q
          rw [upd_s, upd_s]
          exact hy
        · rw [upd_n _ _ q, upd_n _ _ q]
          exact w9 x hx
      · have e26 : (sI μ1 0 49 (-1)).1 26 (60 * x + i) = if 60 * l ≤ 60 * x + i ∧ 60 * x + i < 60 * l + 60 then 0 else μ.1 26 (60 * x + i) := by rw [sI_n _ _ _ _ (by omega), m2]
        rw [e26]
        by_cases q : x = l
        · subst q
          rw [if_pos (by omega), k1 (7 + x) (by omega) (by omega), sI_n _ _ _ _ (by omega), s2 i hi]
        · rw [if_neg (by omega), c (7 + x) (by omega) (by omega) (by omega) (by omega)]
          exact w10 x i hx hi
      · rw [c (15 + f) (by omega) (by omega) (by omega) (by omega), g 27 (by omega) (by omega) (by omega)]
        exact w11 f t hf ht
    · rw [k2 6 (by omega), sI_n _ _ _ _ (by omega), s3 21 (by omega)]
    · rw [k2 7 (by omega), sI_n _ _ _ _ (by omega), s3 21 (by omega)]
  · rw [tabC_no w5 hla (fun z => h ⟨z.1, hiff.mp z.2⟩), tabM_no w6 hla h]
    exact ⟨_, σ, μ, rfl, rfl, I⟩
