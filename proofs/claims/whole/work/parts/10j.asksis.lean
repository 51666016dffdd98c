-- ===== the variables on both sides =====
theorem fX6_asks_run3 {σ μ0 : St} {mo la l t n : Nat} {d e : Int32} (W : InvW σ μ0 mo la) (hl : l < 6) (ht : t ≤ 14) : ∀ (j k m : Nat) (μ : St), j + k = la → j < m → KeepM μ0 μ → μ.1 38 6 = othS μ0 l t d e k → ∃ μ', fX6_asks_L (nI l) d e (nI t) (nI n) m 3 (nI k) μ = some (0, μ') ∧ KeepM μ0 μ' ∧ (∀ i, i ≠ 6 → i ≠ 7 → μ'.1 38 i = μ.1 38 i) ∧ μ'.1 38 6 = othS μ0 l t d e la ∧ μ'.1 38 7 = nI t
  | 0, k, m + 1, μ, ek, _, K, h => by
    have hla := W.2.1
    have : k = la := by omega
    subst this
    have h37 : μ.1 0 37 = nI k := by rw [K.1 0 (by omega) (by omega)]; exact W.2.2.2.2.2.1
    rw [fX6_asks_L, if_neg (by decide), if_neg (by decide), if_neg (by decide), h37, if_pos (nI_le (Nat.le_refl _) (by omega)), qm_7, cl_7]
    refine ⟨_, rfl, K.trans (KeepM.s38 _ _ _), fun i _ h7 => ?_, ?_, ?_⟩
    · rw [sI_s, upd_n _ _ h7]
    · rw [sI_s, upd_n _ _ (by omega), h]
    · rw [sI_s, upd_s]
  | j + 1, k, m + 1, μ, ek, hm, K, h => by
    have hla := W.2.1
    have h37 : μ.1 0 37 = nI la := by rw [K.1 0 (by omega) (by omega)]; exact W.2.2.2.2.2.1
    rw [fX6_asks_L, if_neg (by decide), if_neg (by decide), if_neg (by decide), h37, if_neg (nI_ge (by omega) (by omega)), show (6 : Int32) = nI 6 from rfl, pk_mul, nI_add, qix_nI (by omega) (by omega), nI_clamp (show 6 * k + l < 2 ^ 31 by omega), K.mid 27 (by omega) (by omega)]
    simp only [qlet, nI_1]
    have no : ¬ othC μ0 l t k d e → ∃ μ', fX6_asks_L (nI l) d e (nI t) (nI n) m 3 (nI (k + 1)) μ = some (0, μ') ∧ KeepM μ0 μ' ∧ (∀ i, i ≠ 6 → i ≠ 7 → μ'.1 38 i = μ.1 38 i) ∧ μ'.1 38 6 = othS μ0 l t d e la ∧ μ'.1 38 7 = nI t := fun q =>
      fX6_asks_run3 W hl ht j (k + 1) m μ (by omega) (by omega) K (by rw [othS, if_neg q]; exact h)
    by_cases q1 : k = l
    · rw [if_pos (by rw [q1])]
      exact no (fun z => z.1 q1)
    · rw [if_neg (fun z => q1 ((nI_eq (by omega) (by omega)).mp z))]
      by_cases q2 : μ0.1 27 (6 * k + l) = -1
      · rw [if_pos q2]
        exact no (fun z => z.2.2.2.1 q2)
      · rw [if_neg q2, qix_nI (show k < 6 by omega) (by omega), nI_clamp (show k < 2 ^ 31 by omega), K.1 32 (by omega) (by omega)]
        by_cases q3 : nI t < μ0.1 32 k
        · rw [if_pos q3, show (16 : Int32) = nI 16 from rfl, pk_mul, nI_add, qix_nI (by omega) (by omega), nI_clamp (show 16 * k + t < 2 ^ 31 by omega), K.1 33 (by omega) (by omega)]
          by_cases q4 : e < μ0.1 33 (16 * k + t)
          · rw [if_pos q4]
            exact no (fun z => z.2.2.1 q4)
          · rw [if_neg q4]
            by_cases q5 : d < μ0.1 33 (16 * k + t) + μ0.1 27 (6 * k + l)
            · rw [if_pos q5]
              exact no (fun z => z.2.2.2.2 q5)
            · rw [if_neg q5]
              have hq : othC μ0 l t k d e := ⟨q1, q3, q4, q2, q5⟩
              simp only [show ∀ b : Option (Int32 × St), qix (nI 6) 8 b = b from fun b => qix_nI (by omega) (by omega), nI_clamp (show 6 < 2 ^ 31 by omega)]
              obtain ⟨μ', b0, b1, b2, b3⟩ := fX6_asks_run3 (n := n) W hl ht j (k + 1) m (sI μ 38 6 (μ.1 38 6 + 1)) (by omega) (by omega) (K.trans (KeepM.s38 _ _ _)) (by rw [sI_s, upd_s, othS, if_pos hq, h])
              exact ⟨μ', b0, b1, fun i h6 h7 => by rw [b2 i h6 h7, sI_s, upd_n _ _ h6], b3⟩
        · rw [if_neg q3]
          exact no (fun z => q3 z.2.1)
theorem fX6_asks_gen {σ μ : St} {mo la wn fn n l t d e m bm : Nat} (W : InvW σ μ mo la) (F : InvF σ μ la wn fn) (hn : n ≤ fn) (hl : l < la) (ht : t ≤ 14) (hd : d < 400) (he : e < 400) (hm : m ≤ 13) (h32 : μ.1 32 l = nI (m + 1)) (h33 : μ.1 33 (16 * l + m) = nI bm) (N : Nat) (hN : 1000 ≤ N) : ∃ μ', fX6_asks_L (nI l) (nI d) (nI e) (nI t) (nI n) N 0 0 (sI μ 38 0 (nI d - nI bm)) = some (0, μ') ∧ KeepM μ μ' ∧ μ'.1 38 0 = nI d - nI bm ∧ μ'.1 38 1 = sS (seerS μ mo l (nI d) (nI e) n n) 12 ∧ μ'.1 38 2 = sW (seerS μ mo l (nI d) (nI e) n n) (fun w => worthS μ mo w (nI d) n) 12 ∧ μ'.1 38 3 = sB (seerS μ mo l (nI d) (nI e) n n) (fun w => worthS μ mo w (nI d) n) 12 ∧ μ'.1 38 4 = lightS μ mo l (nI e) ∧ μ'.1 38 5 = (by classical exact if cloudB μ l e n then 1 else 0) ∧ μ'.1 38 6 = othS μ l t (nI d) (nI e) la ∧ μ'.1 38 7 = nI t := by
  have hla := W.2.1
  have hwn := F.1
  have hfn := F.2.1
  have hz := F.zo
  have K0 := KeepM.s38 μ 0 (nI d - nI bm)
  obtain ⟨μ1, a1, a2, a3, a4⟩ := fX6_asks_run0 (a1 := nI l) (a2 := nI d) (a3 := nI e) (a4 := nI t) (a5 := nI n) 12 0 (N - 13) (sI μ 38 0 (nI d - nI bm)) (by omega) (fun w hw => absurd hw (by omega))
  rw [show N - 13 + 1 + 12 = N by omega, nI_0] at a1
  rw [a1]
  have K1 := K0.trans a2
  obtain ⟨μ2, b1, b2, b3, b4⟩ := fX6_asks_run1 (a4 := nI t) (d := nI d) (e := nI e) W F hn (show l < 6 by omega) n 0 (N - 13 - n) μ1 (by omega) K1 (fun w hw => by rw [a4 w hw, seerS_0, if_neg (fun q => q)])
  rw [show N - 13 - n + n = N - 13 by omega, nI_0] at b1
  rw [b1]
  obtain ⟨k2, hk2⟩ : ∃ k2, N - 13 - n = k2 + 1 := ⟨N - 14 - n, by omega⟩
  rw [hk2, fX6_asks_L, if_neg (by decide), if_pos rfl, if_pos (nI_le (Nat.le_refl _) (by omega))]
  simp only [qlet, qm_1, qm_2, qm_3, cl_1, cl_2, cl_3]
  have K3 := ((b2.trans (KeepM.s38 μ2 1 0)).trans (KeepM.s38 _ 2 0)).trans (KeepM.s38 _ 3 0)
  obtain ⟨μ3, c1, c2, c3, c4, c5, c6⟩ := fX6_asks_run2 (a1 := nI l) (d := nI d) (e := nI e) (a4 := nI t) (P := seerS μ mo l (nI d) (nI e) n n) W F hn wn 0 (k2 - wn) _ (by omega) K3 (fun w hw => by rw [sI_n _ _ _ _ (by omega), sI_n _ _ _ _ (by omega), sI_n _ _ _ _ (by omega)]; exact b4 w hw) (by rw [sI_s, upd_n _ _ (by omega), sI_s, upd_n _ _ (by omega), sI_s, upd_s]; rfl) (by rw [sI_s, upd_n _ _ (by omega), sI_s, upd_s]; rfl) (by rw [sI_s, upd_s]; rfl)
  rw [show k2 - wn + wn = k2 by omega, nI_0] at c1
  rw [c1]
  obtain ⟨k3, hk3⟩ : ∃ k3, k2 - wn = k3 + 1 := ⟨k2 - wn - 1, by omega⟩
  have h43 : μ3.1 0 43 = nI wn := by rw [c2.1 0 (by omega) (by omega)]; exact F.2.2.2.1
  rw [hk3, fX6_asks_L, if_neg (by decide), if_neg (by decide), if_pos rfl, h43, if_pos (nI_le (Nat.le_refl _) (by omega)), fX6_lightOf_is (c2.W W) hl he, qcall_s, lightS_congr c2.mid]
  simp only [qlet, qm_4, cl_4]
  have K4 := c2.trans (KeepM.s38 μ3 4 (lightS μ mo l (nI e)))
  rw [fX6_hasCloud_is hn hfn (fun k hk => by rw [K4.mid 29 (by omega) (by omega)]; exact hz k hk), qcall_s, cloudB_congr K4.mid]
  have tail : ∀ v : Int32, ∃ μ', fX6_asks_L (nI l) (nI d) (nI e) (nI t) (nI n) k3 3 0 (sI (sI (sI μ3 38 4 (lightS μ mo l (nI e))) 38 5 v) 38 6 0) = some (0, μ') ∧ KeepM μ μ' ∧ (∀ i, i ≠ 6 → i ≠ 7 → μ'.1 38 i = (sI (sI (sI μ3 38 4 (lightS μ mo l (nI e))) 38 5 v) 38 6 0).1 38 i) ∧ μ'.1 38 6 = othS μ l t (nI d) (nI e) la ∧ μ'.1 38 7 = nI t := fun v =>
    fX6_asks_run3 W (show l < 6 by omega) ht la 0 k3 _ (by omega) (by omega) ((K4.trans (KeepM.s38 _ 5 v)).trans (KeepM.s38 _ 6 0)) (by rw [sI_s, upd_s]; rfl)
  have fin : ∀ v : Int32, v = (by classical exact if cloudB μ l e n then 1 else 0) → ∃ μ', fX6_asks_L (nI l) (nI d) (nI e) (nI t) (nI n) k3 3 0 (sI (sI (sI μ3 38 4 (lightS μ mo l (nI e))) 38 5 v) 38 6 0) = some (0, μ') ∧ KeepM μ μ' ∧ μ'.1 38 0 = nI d - nI bm ∧ μ'.1 38 1 = sS (seerS μ mo l (nI d) (nI e) n n) 12 ∧ μ'.1 38 2 = sW (seerS μ mo l (nI d) (nI e) n n) (fun w => worthS μ mo w (nI d) n) 12 ∧ μ'.1 38 3 = sB (seerS μ mo l (nI d) (nI e) n n) (fun w => worthS μ mo w (nI d) n) 12 ∧ μ'.1 38 4 = lightS μ mo l (nI e) ∧ μ'.1 38 5 = (by classical exact if cloudB μ l e n then 1 else 0) ∧ μ'.1 38 6 = othS μ l t (nI d) (nI e) la ∧ μ'.1 38 7 = nI t := fun v hv => by
    obtain ⟨μ', d1, d2, d3, d4, d5⟩ := tail v
    have hP : ∀ w, wn ≤ w → w < 12 → ¬ seerS μ mo l (nI d) (nI e) n n w := fun w hw hw12 ⟨j, hj, q, q2⟩ => by
      obtain ⟨-, -, w', hw', q3⟩ := (F.2.2.2.2.2.2.2.1 j (by omega)).2.2.resolve_right (fun z => by have := q.1; rw [z.1] at this; exact absurd this (by decide))
      rw [q3] at q2
      have := (nI_eq (by omega) (by omega)).mp q2
      omega
    obtain ⟨x1, x2, x3⟩ := s_cong (P := seerS μ mo l (nI d) (nI e) n n) (Q := fun w => seerS μ mo l (nI d) (nI e) n n w ∧ w < wn) (f := fun w => worthS μ mo w (nI d) n) (N := 12) (fun v hv => ⟨fun q => ⟨q, by
      rcases Nat.lt_or_ge v wn with z | z
      · exact z
      · exact absurd q (hP v z hv)⟩, fun q => q.1⟩)
    obtain ⟨y1, y2, y3⟩ := s_ext (P := fun w => seerS μ mo l (nI d) (nI e) n n w ∧ w < wn) (f := fun w => worthS μ mo w (nI d) n) (M := wn) (fun w hw q => absurd q.2 (by omega)) (12 - wn)
    obtain ⟨z1, z2, z3⟩ := s_cong (P := seerS μ mo l (nI d) (nI e) n n) (Q := fun w => seerS μ mo l (nI d) (nI e) n n w ∧ w < wn) (f := fun w => worthS μ mo w (nI d) n) (N := wn) (fun v hv => ⟨fun q => ⟨q, hv⟩, fun q => q.1⟩)
    rw [show wn + (12 - wn) = 12 by omega] at y1 y2 y3
    refine ⟨μ', d1, d2, ?_, ?_, ?_, ?_, ?_, ?_, d4, d5⟩
    · rw [d3 0 (by omega) (by omega), sI_s, upd_n _ _ (by omega), sI_s, upd_n _ _ (by omega), sI_s, upd_n _ _ (by omega), c3, sI_s, upd_n _ _ (by omega), sI_s, upd_n _ _ (by omega), sI_s, upd_n _ _ (by omega), b3, a3, sI_s, upd_s]
    · rw [d3 1 (by omega) (by omega), sI_s, upd_n _ _ (by omega), sI_s, upd_n _ _ (by omega), sI_s, upd_n _ _ (by omega), c4, x1, y1, z1]
    · rw [d3 2 (by omega) (by omega), sI_s, upd_n _ _ (by omega), sI_s, upd_n _ _ (by omega), sI_s, upd_n _ _ (by omega), c5, x2, y2, z2]
    · rw [d3 3 (by omega) (by omega), sI_s, upd_n _ _ (by omega), sI_s, upd_n _ _ (by omega), sI_s, upd_n _ _ (by omega), c6, x3, y3, z3]
    · rw [d3 4 (by omega) (by omega), sI_s, upd_n _ _ (by omega), sI_s, upd_n _ _ (by omega), sI_s, upd_s]
    · rw [d3 5 (by omega) (by omega), sI_s, upd_n _ _ (by omega), sI_s, upd_s, hv]
  simp only [qm_5, qm_6, cl_5, cl_6]
  by_cases hc : cloudB μ l e n
  · rw [if_pos hc, if_neg (by decide)]
    have := fin 1 (by rw [if_pos hc])
    rw [if_pos hc] at this
    exact this
  · rw [if_neg hc, if_pos rfl]
    have := fin 0 (by rw [if_neg hc])
    rw [if_neg hc] at this
    exact this
