-- ===== what is told: the world =====
theorem firstC_congr2 {μ μ' : St} (h29 : μ'.1 29 = μ.1 29) (h30 : μ'.1 30 = μ.1 30) (h31 : μ'.1 31 = μ.1 31) (l d : Nat) : ∀ n, firstC μ' l d n = firstC μ l d n
  | 0 => rfl
  | n + 1 => by
    have e : isCl μ' l d n = isCl μ l d n := by unfold isCl; rw [h29, h30, h31]
    rw [firstC, firstC, firstC_congr2 h29 h30 h31 l d n]
    by_cases q : isCl μ l d n
    · rw [if_pos q, if_pos (show isCl μ' l d n by rw [e]; exact q)]
    · rw [if_neg q, if_neg (show ¬ isCl μ' l d n by rw [e]; exact q)]
theorem InvF.world {σ σ' μ μ' : St} {la la' wn fn : Nat} (F : InvF σ μ la wn fn) (hla : la ≤ la') (h : ∀ i, 22 ≤ i → i ≤ 31 → σ'.1 i = σ.1 i) (g6 : σ'.1 21 6 = σ.1 21 6) (g7 : σ'.1 21 7 = σ.1 21 7) (k : ∀ i, 28 ≤ i → i ≤ 31 → μ'.1 i = μ.1 i) (k43 : μ'.1 0 43 = μ.1 0 43) (k45 : μ'.1 0 45 = μ.1 0 45) : InvF σ' μ' la' wn fn := by
  obtain ⟨f1, f2, f3, f4, f5, f6, f7, f8, f9⟩ := F
  refine ⟨f1, f2, by rw [g6]; exact f3, by rw [k43]; exact f4, by rw [g7]; exact f5, by rw [k45]; exact f6, fun w hw => ?_, fun j hj => ?_, fun l d hl hd => ?_⟩
  · rw [h 30 (by omega) (by omega), k 28 (by omega) (by omega)]
    obtain ⟨q1, x, hx, q2⟩ := f7 w hw
    exact ⟨q1, x, by omega, q2⟩
  · rw [h 22 (by omega) (by omega), h 31 (by omega) (by omega), k 29 (by omega) (by omega), k 30 (by omega) (by omega), k 31 (by omega) (by omega)]
    obtain ⟨q1, q2, q3⟩ := f8 j hj
    exact ⟨q1, q2, q3.imp id (fun ⟨z1, z2, x, hx, z3⟩ => ⟨z1, z2, x, by omega, z3⟩)⟩
  · rw [h (24 + l) (by omega) (by omega), firstC_congr2 (k 29 (by omega) (by omega)) (k 30 (by omega) (by omega)) (k 31 (by omega) (by omega))]
    exact f9 l d hl hd
theorem Inv.world {σ σ' μ μ' : St} {mo mo' la la' wn fn : Nat} (I : Inv σ μ mo la wn fn) (W' : InvW σ' μ' mo' la') (hla : la ≤ la') (h : ∀ i, i ≤ 1 ∨ (22 ≤ i ∧ i ≤ 31) ∨ 61 ≤ i → σ'.1 i = σ.1 i) (h6 : σ'.1 21 6 = σ.1 21 6) (h7 : σ'.1 21 7 = σ.1 21 7) (h2 : σ'.2 = σ.2) (k : ∀ i, 1 ≤ i → i ≤ 21 ∨ (28 ≤ i ∧ i ≤ 31) → μ'.1 i = μ.1 i) (k0 : ∀ i, i ≠ 35 → i ≠ 37 → i ≠ 49 → μ'.1 0 i = μ.1 0 i) (j1 : σ'.1 21 8 = -1) (j2 : σ'.1 36 9 = -1) (j3 : μ'.1 0 49 = -1) (g2 : μ'.2 = μ.2 := by rfl) : Inv σ' μ' mo' la' wn fn := by
  obtain ⟨W, F, T, P, J, S, X⟩ := I
  refine ⟨W', F.world hla (fun i h1 h2 => h i (by omega)) h6 h7 (fun i h1 h2 => k i (by omega) (by omega)) (k0 43 (by omega) (by omega) (by omega)) (k0 45 (by omega) (by omega) (by omega)), ?_, by rw [h 0 (by omega), k0 17 (by omega) (by omega) (by omega)]; exact P, Or.inl j1, ⟨j2.trans j3.symm, Or.inl j2⟩, ?_⟩
  · unfold InvT
    rw [h 0 (by omega), h 1 (by omega), k0 2 (by omega) (by omega) (by omega), k 1 (by omega) (by omega)]
    exact T
  · obtain ⟨x1, x2, x3, x4⟩ := X.mono (σ' := σ') (μ' := μ') ⟨fun i h1 h3 h4 => h i (by omega), by rw [h2]⟩ (fun i h1 h3 => k i (by omega) (by omega)) g2
    exact ⟨x1, fun l hl => by
      obtain ⟨r, v, z1, z2, z3, z4, z5, z6⟩ := x2 l hl
      exact ⟨r, v, z1, z2, z3, z4, z5, fun q => z6 (by omega)⟩, x3, x4⟩
theorem forget_is (σ : St) : fX5_forgetAnswers σ = some (0, sI (sI σ 21 8 (-1)) 36 9 (-1)) := by
  unfold fX5_forgetAnswers
  rw [qlet_e, qlet_e]
theorem forget_keep (σ : St) : (∀ i, i ≠ 21 → i ≠ 36 → (sI (sI σ 21 8 (-1)) 36 9 (-1)).1 i = σ.1 i) ∧ (∀ i, i ≠ 8 → (sI (sI σ 21 8 (-1)) 36 9 (-1)).1 21 i = σ.1 21 i) ∧ (sI (sI σ 21 8 (-1)) 36 9 (-1)).1 21 8 = -1 ∧ (sI (sI σ 21 8 (-1)) 36 9 (-1)).1 36 9 = -1 := by
  refine ⟨fun i h1 h2 => ?_, fun i hi => ?_, ?_, ?_⟩
  · rw [sI_n _ _ _ _ h2, sI_n _ _ _ _ h1]
  · rw [sI_n _ _ _ _ (by omega), sI_s, upd_n _ _ hi]
  · rw [sI_n _ _ _ _ (by omega), sI_s, upd_s]
  · rw [sI_s, upd_s]
theorem p_travel {σ μ : St} {mo la wn fn : Nat} (I : Inv σ μ mo la wn fn) (a1 a2 a3 : Int32) : ∃ r σ' μ', fX5_travel σ a1 a2 a3 = some (r, σ') ∧ fX6_travel μ a1 a2 a3 = some (r, μ') ∧ Inv σ' μ' mo la wn fn := by
  obtain ⟨W, F, -⟩ := id I
  have hla := W.2.1
  unfold fX5_travel fX6_travel
  rw [isLandC W.2.2.2.2.1 hla, isLandM W.2.2.2.2.2.1 hla, qcall_s, qcall_s]
  simp only [qlet]
  by_cases h1 : inN la a1
  · rw [b01_t h1, if10, if10, isLandC W.2.2.2.2.1 hla, isLandM W.2.2.2.2.2.1 hla, qcall_s, qcall_s]
    by_cases h2 : inN la a2
    · rw [b01_t h2, if10, if10]
      by_cases h3 : a1 = a2
      · rw [if_pos h3, if_pos h3]
        exact ⟨_, σ, μ, rfl, rfl, I⟩
      · rw [if_neg h3, if_neg h3]
        by_cases h4 : a3 < -1
        · rw [if_pos h4, if_pos h4]
          exact ⟨_, σ, μ, rfl, rfl, I⟩
        · rw [if_neg h4, if_neg h4]
          by_cases h5 : a3 ≤ 60
          · rw [if_pos h5, if_pos h5]
            obtain ⟨l1, hl1, rfl⟩ := h1
            obtain ⟨l2, hl2, rfl⟩ := h2
            have e6 : (6 : Int32) * nI l1 + nI l2 = nI (6 * l1 + l2) := by rw [show (6 : Int32) = nI 6 from rfl, pk_mul, nI_add]
            rw [e6, qix_nI (show l1 < 6 by omega) (by omega), qix_nI (show 6 * l1 + l2 < 36 by omega) (by omega), nI_clamp (show 6 * l1 + l2 < 2 ^ 31 by omega), nI_clamp (show l1 < 2 ^ 31 by omega), nI_clamp (show l2 < 2 ^ 31 by omega)]
            have key : ∀ y : Int32, ((y = 1000000 ∧ a3 = -1) ∨ ∃ n, n ≤ 60 ∧ y = nI n ∧ a3 = nI n) → ∃ r σ' μ', qix (nI l2) 6 (qcall (fX5_forgetAnswers (sI σ (15 + l1) l2 y)) fun x σ65 => qzz 1 (some ((1 : Int32), σ65))) = some (r, σ') ∧ qzz 1 (some ((1 : Int32), sI (sI μ 27 (6 * l1 + l2) a3) 0 49 (-1))) = some (r, μ') ∧ Inv σ' μ' mo la wn fn := fun y hy => by
              rw [qix_nI (show l2 < 6 by omega) (by omega), forget_is, qcall_s]
              obtain ⟨k1, k2, k3, k4⟩ := forget_keep (sI σ (15 + l1) l2 y)
              refine ⟨1, _, _, rfl, rfl, I.world ?_ (Nat.le_refl la) (fun i hi => ?_) ?_ ?_ rfl (fun i h1 hi => ?_) (fun i q1 q2 q3 => ?_) k3 k4 (by rw [sI_s, upd_s])⟩
              · obtain ⟨w1, w2, w3, w4, w5, w6, w7, w8, w9, w10, w11⟩ := W
                have c : ∀ i, i ≠ 21 → i ≠ 36 → i ≠ 15 + l1 → (sI (sI (sI σ (15 + l1) l2 y) 21 8 (-1)) 36 9 (-1)).1 i = σ.1 i := fun i q1 q2 q3 => by rw [k1 i q1 q2, sI_n _ _ _ _ q3]
                have g : ∀ i, 1 ≤ i → i ≠ 27 → (sI (sI μ 27 (6 * l1 + l2) a3) 0 49 (-1)).1 i = μ.1 i := fun i q1 q2 => by rw [sI_n _ _ _ _ (by omega), sI_n _ _ _ _ q2]
                have g0 : ∀ i, i ≠ 49 → (sI (sI μ 27 (6 * l1 + l2) a3) 0 49 (-1)).1 0 i = μ.1 0 i := fun i q => by rw [sI_s, upd_n _ _ q, sI_n _ _ _ _ (by omega)]
                refine ⟨w1, w2, by rw [c 2 (by omega) (by omega) (by omega)]; exact w3, by rw [g0 35 (by omega)]; exact w4, by rw [c 2 (by omega) (by omega) (by omega)]; exact w5, by rw [g0 37 (by omega)]; exact w6, fun k hk => ?_, fun l hl => ?_, fun l hl => ?_, fun l i hl hi => ?_, fun f t hf ht => ?_⟩
                · rw [c 3 (by omega) (by omega) (by omega), g 22 (by omega) (by omega)]
                  exact w7 k hk
                · rw [c 4 (by omega) (by omega) (by omega), c 5 (by omega) (by omega) (by omega), g 23 (by omega) (by omega), g 24 (by omega) (by omega)]
                  exact w8 l hl
                · rw [c 13 (by omega) (by omega) (by omega), g 25 (by omega) (by omega)]
                  exact w9 l hl
                · rw [c (7 + l) (by omega) (by omega) (by omega), g 26 (by omega) (by omega)]
                  exact w10 l i hl hi
                · have e27 : (sI (sI μ 27 (6 * l1 + l2) a3) 0 49 (-1)).1 27 = upd (μ.1 27) (6 * l1 + l2) a3 := by rw [sI_n _ _ _ _ (by omega), sI_s]
                  rw [e27]
                  by_cases qf : f = l1
                  · subst qf
                    rw [k1 (15 + f) (by omega) (by omega), sI_s]
                    by_cases qt : t = l2
                    · subst qt
                      rw [upd_s, upd_s]
                      exact hy
                    · rw [upd_n _ _ qt, upd_n _ _ (by omega)]
                      exact w11 f t hf ht
                  · rw [c (15 + f) (by omega) (by omega) (by omega), upd_n _ _ (by omega)]
                    exact w11 f t hf ht
              · rw [k1 i (by omega) (by omega), sI_n _ _ _ _ (by omega)]
              · rw [k2 6 (by omega), sI_n _ _ _ _ (by omega)]
              · rw [k2 7 (by omega), sI_n _ _ _ _ (by omega)]
              · rw [sI_n _ _ _ _ (by omega), sI_n _ _ _ _ (by omega)]
              · rw [sI_s, upd_n _ _ q3, sI_n _ _ _ _ (by omega)]
            by_cases h6 : a3 = -1
            · rw [if_pos h6]
              exact key _ (Or.inl ⟨rfl, h6⟩)
            · rw [if_neg h6]
              refine key _ (Or.inr ?_)
              have em1 : (-1 : Int32).toInt = -1 := by decide
              have e60 : (60 : Int32).toInt = 60 := by decide
              rw [fa_lt, em1] at h4
              rw [fa_le, e60] at h5
              have h7 : ¬ a3.toInt = -1 := fun q => h6 ((fa_eq _ _).mpr (by rw [q, em1]))
              have e : a3 = nI a3.toInt.toNat := (fa_eq _ _).mpr (by rw [nI_toInt (by omega)]; omega)
              exact ⟨a3.toInt.toNat, by omega, e, e⟩
          · rw [if_neg h5, if_neg h5]
            exact ⟨_, σ, μ, rfl, rfl, I⟩
    · rw [b01_f h2, if00, if00]
      exact ⟨_, σ, μ, rfl, rfl, I⟩
  · rw [b01_f h1, if00, if00]
    exact ⟨_, σ, μ, rfl, rfl, I⟩
