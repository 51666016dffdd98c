-- ===== the tape: back; cell =====
theorem Inv.tape {σ σ' μ μ' : St} {mo la wn fn : Nat} (I : Inv σ μ mo la wn fn) (T' : InvT σ' μ') (h : ∀ i, 2 ≤ i → σ'.1 i = σ.1 i) (h0 : σ'.1 0 2 = σ.1 0 2) (h2 : σ'.2 = σ.2) (g : ∀ i, 2 ≤ i → μ'.1 i = μ.1 i) (g0 : ∀ i, i ≠ 2 → μ'.1 0 i = μ.1 0 i) (g2 : μ'.2 = μ.2 := by rfl) : Inv σ' μ' mo la wn fn := by
  obtain ⟨W, F, T, P, J, S, X⟩ := I
  refine ⟨(W.congr (fun i h1 h2 => h i (by omega))).congrM (fun i h1 h2 => g i (by omega)) (g0 35 (by omega)) (g0 37 (by omega)), (F.congr (fun i h1 h2 => h i (by omega)) (by rw [h 21 (by omega)]) (by rw [h 21 (by omega)])).congrM (fun i h1 h2 => g i (by omega)) (g0 43 (by omega)) (g0 45 (by omega)), T', by rw [h0, g0 17 (by omega)]; exact P, ?_, ?_, X.mono ⟨fun i h1 h3 h4 => h i (by omega), by rw [h2]⟩ (fun i h1 h3 => g i (by omega)) g2⟩
  · rcases J with q | ⟨k, hk, q⟩
    · exact Or.inl (by rw [h 21 (by omega)]; exact q)
    · exact Or.inr ⟨k, hk, (q.congr (by rw [h 21 (by omega)]) (h 32 (by omega))).congrM (fun i h1 h3 => g i (by omega))⟩
  · unfold InvS
    rw [h 36 (by omega), g0 49 (by omega)]
    exact ⟨S.1, S.2.imp id (fun q => ⟨q.1, fun l hl => (q.2 l hl).congr (fun i hi => h i (by omega)) (fun i hi => g i (by omega))⟩)⟩
theorem p_back {σ μ : St} {mo la wn fn : Nat} (I : Inv σ μ mo la wn fn) (a1 : Int32) : ∃ r σ' μ', fX5_back σ a1 = some (r, σ') ∧ fX6_back μ a1 = some (r, μ') ∧ Inv σ' μ' mo la wn fn := by
  obtain ⟨W, F, ⟨n, hn, t1, t2, t3⟩, -⟩ := id I
  unfold fX5_back fX6_back
  simp only [qlet, t1, t2]
  by_cases h1 : a1 < 0
  · rw [if_pos h1, if_pos h1]
    exact ⟨_, σ, μ, rfl, rfl, I⟩
  · rw [if_neg h1, if_neg h1]
    by_cases h2 : a1 ≤ nI n
    · rw [if_pos h2, if_pos h2]
      obtain ⟨k, hk, rfl⟩ := nI_of h1
      have hk2 := (nI_leI (by omega) (by omega)).mp h2
      rw [pk_sub hk2]
      refine ⟨nI (n - k), sI σ 0 1 (nI (n - k)), sI μ 0 2 (nI (n - k)), ?_, ?_, I.tape ⟨n - k, by omega, ?_, ?_, fun j hj => ?_⟩ (fun i hi => sI_n _ _ _ _ (by omega)) (by rw [sI_s, upd_n _ _ (by omega)]) rfl (fun i hi => sI_n _ _ _ _ (by omega)) (fun i hi => by rw [sI_s, upd_n _ _ hi])⟩
      · rw [sI_s, upd_s]
      · rw [sI_s, upd_s]
      · rw [sI_s, upd_s]
      · rw [sI_s, upd_s]
      · rw [sI_n _ _ _ _ (by omega), sI_n _ _ _ _ (by omega)]
        exact t3 j (by omega)
    · rw [if_neg h2, if_neg h2]
      exact ⟨_, σ, μ, rfl, rfl, I⟩
theorem byte3 {a : Int32} (h0 : 0 ≤ a.toInt) (h2 : a.toInt ≤ 2) : vp_nar .byte a.toInt8.toInt32 = a := by
  have e : a.toInt8.toInt32 = a := fb_byte (by omega) (by omega)
  rw [e, vp_nar_byte, e]
theorem p_cell {σ μ : St} {mo la wn fn : Nat} (I : Inv σ μ mo la wn fn) (a1 a2 a3 : Int32) : ∃ r σ' μ', fX5_cell σ a1 a2 a3 = some (r, σ') ∧ fX6_cell μ a1 a2 a3 = some (r, μ') ∧ Inv σ' μ' mo la wn fn := by
  obtain ⟨W, F, -⟩ := id I
  have hla := W.2.1
  have z0 : (0 : Int32).toInt = 0 := by decide
  have z2 : (2 : Int32).toInt = 2 := by decide
  unfold fX5_cell fX6_cell
  rw [isLandC W.2.2.2.2.1 hla, isLandM W.2.2.2.2.2.1 hla, qcall_s, qcall_s]
  simp only [qlet]
  by_cases h1 : inN la a1
  · rw [b01_t h1, if10, if10]
    obtain ⟨l, hl, rfl⟩ := h1
    by_cases h2 : a2 < 0
    · rw [if_pos h2, if_pos h2]
      exact ⟨_, σ, μ, rfl, rfl, I⟩
    · rw [if_neg h2, if_neg h2]
      obtain ⟨i2, hi2, rfl⟩ := nI_of h2
      simp only [qix_nI (show l < 6 by omega) (show 6 ≤ 2 ^ 31 by omega), nI_clamp (show l < 2 ^ 31 by omega)]
      rcases W.2.2.2.2.2.2.2.2.1 l (by omega) with ⟨q1, q2⟩ | ⟨c, c1, c2, q1, q2⟩
      · rw [q1, q2, if_neg (nI_pos hi2), if_pos (show (-1 : Int32) ≤ nI i2 by rw [fa_le, nI_toInt hi2, show (-1 : Int32).toInt = -1 by decide]; omega)]
        exact ⟨_, σ, μ, rfl, rfl, I⟩
      · rw [q1, q2]
        by_cases h3 : i2 < c
        · rw [if_pos (nI_lt h3 (by omega)), if_neg (nI_ge h3 (by omega))]
          by_cases h4 : a3 < 0
          · rw [if_pos h4, if_pos h4]
            exact ⟨_, σ, μ, rfl, rfl, I⟩
          · rw [if_neg h4, if_neg h4]
            by_cases h5 : a3 ≤ 2
            · have b0 : 0 ≤ a3.toInt := by rw [fa_lt, z0] at h4; omega
              have b2 : a3.toInt ≤ 2 := by rw [fa_le, z2] at h5; omega
              rw [if_pos h5, if_pos h5, qix_nI (show i2 < 60 by omega) (by omega), nI_clamp hi2, byte3 b0 b2, show (60 : Int32) = nI 60 from rfl, pk_mul, nI_add, qix_nI (show 60 * l + i2 < 360 by omega) (by omega), nI_clamp (show 60 * l + i2 < 2 ^ 31 by omega), forget_is, qcall_s]
              obtain ⟨k1, k2, k3, k4⟩ := forget_keep (sI σ (7 + l) i2 a3)
              have c9 : ∀ i, i ≠ 21 → i ≠ 36 → i ≠ 7 + l → (sI (sI (sI σ (7 + l) i2 a3) 21 8 (-1)) 36 9 (-1)).1 i = σ.1 i := fun i q1 q2 q3 => by rw [k1 i q1 q2, sI_n _ _ _ _ q3]
              have g : ∀ i, 1 ≤ i → i ≠ 26 → (sI (sI μ 26 (60 * l + i2) a3) 0 49 (-1)).1 i = μ.1 i := fun i q1 q2 => by rw [sI_n _ _ _ _ (by omega), sI_n _ _ _ _ q2]
              have g0 : ∀ i, i ≠ 49 → (sI (sI μ 26 (60 * l + i2) a3) 0 49 (-1)).1 0 i = μ.1 0 i := fun i q => by rw [sI_s, upd_n _ _ q, sI_n _ _ _ _ (by omega)]
              refine ⟨1, _, _, rfl, rfl, I.world ?_ (Nat.le_refl la) (fun i hi => c9 i (by omega) (by omega) (by omega)) ?_ ?_ rfl (fun i q hi => g i q (by omega)) (fun i _ _ q3 => g0 i q3) k3 k4 (by rw [sI_s, upd_s])⟩
              · obtain ⟨w1, w2, w3, w4, w5, w6, w7, w8, w9, w10, w11⟩ := W
                refine ⟨w1, w2, by rw [c9 2 (by omega) (by omega) (by omega)]; exact w3, by rw [g0 35 (by omega)]; exact w4, by rw [c9 2 (by omega) (by omega) (by omega)]; exact w5, by rw [g0 37 (by omega)]; exact w6, fun k hk => ?_, fun x hx => ?_, fun x hx => ?_, fun x i hx hi => ?_, fun f t hf ht => ?_⟩
                · rw [c9 3 (by omega) (by omega) (by omega), g 22 (by omega) (by omega)]
                  exact w7 k hk
                · rw [c9 4 (by omega) (by omega) (by omega), c9 5 (by omega) (by omega) (by omega), g 23 (by omega) (by omega), g 24 (by omega) (by omega)]
                  exact w8 x hx
                · rw [c9 13 (by omega) (by omega) (by omega), g 25 (by omega) (by omega)]
                  exact w9 x hx
                · have e26 : (sI (sI μ 26 (60 * l + i2) a3) 0 49 (-1)).1 26 = upd (μ.1 26) (60 * l + i2) a3 := by rw [sI_n _ _ _ _ (by omega), sI_s]
                  rw [e26]
                  by_cases qf : x = l
                  · subst qf
                    rw [k1 (7 + x) (by omega) (by omega), sI_s]
                    by_cases qt : i = i2
                    · subst qt
                      rw [upd_s, upd_s]
                    · rw [upd_n _ _ qt, upd_n _ _ (by omega)]
                      exact w10 x i hx hi
                  · rw [c9 (7 + x) (by omega) (by omega) (by omega), upd_n _ _ (by omega)]
                    exact w10 x i hx hi
                · rw [c9 (15 + f) (by omega) (by omega) (by omega), g 27 (by omega) (by omega)]
                  exact w11 f t hf ht
              · rw [k2 6 (by omega), sI_n _ _ _ _ (by omega)]
              · rw [k2 7 (by omega), sI_n _ _ _ _ (by omega)]
            · rw [if_neg h5, if_neg h5]
              exact ⟨_, σ, μ, rfl, rfl, I⟩
        · rw [if_neg (nI_nlt (by omega) (by omega)), if_pos (nI_le (by omega) (by omega))]
          exact ⟨_, σ, μ, rfl, rfl, I⟩
  · rw [b01_f h1, if00, if00]
    exact ⟨_, σ, μ, rfl, rfl, I⟩
