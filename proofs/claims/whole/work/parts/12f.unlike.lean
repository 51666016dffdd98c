-- ===== unlike, changed =====
theorem unlike_run {σ μ : St} {l1 l2 y : Nat} {a3 a5 : Int32} (h1 : l1 < 6) (h2 : l2 < 6) (hy : y < 400) (R1 : LandR σ μ l1 400) (R2 : LandR σ μ l2 400) : ∀ (j k N N' : Nat) (v : Int32), j + k = y + 1 → j < N → j < N' → ∃ r, fX5_unlike_L (nI l1) (nI l2) a3 (nI y) a5 N v (nI k) σ = some (r, σ) ∧ fX6_unlike_L (nI l1) (nI l2) a3 (nI y) a5 N' v (nI k) μ = some (r, μ)
  | 0, k, N + 1, N' + 1, v, e, _, _ => by
    rw [fX5_unlike_L, fX6_unlike_L, if_pos (nI_lt (by omega) (by omega)), if_pos (nI_lt (by omega) (by omega))]
    exact ⟨_, rfl, rfl⟩
  | j + 1, k, N + 1, N' + 1, v, e, q1, q2 => by
    obtain ⟨r1, d1, d2⟩ := date_both h1 (show k < 400 by omega) R1
    obtain ⟨r2, e1, e2⟩ := date_both h2 (show k < 400 by omega) R2
    rw [fX5_unlike_L, fX6_unlike_L, if_neg (nI_nlt (by omega) (by omega)), if_neg (nI_nlt (by omega) (by omega)), d1, d2, qcall_s, qcall_s, e1, e2, qcall_s, qcall_s]
    simp only [qlet, nI_1]
    by_cases q : r1 = r2
    · rw [if_pos q, if_pos q]
      exact unlike_run h1 h2 hy R1 R2 j (k + 1) N N' v (by omega) (by omega) (by omega)
    · rw [if_neg q, if_neg q]
      exact unlike_run h1 h2 hy R1 R2 j (k + 1) N N' _ (by omega) (by omega) (by omega)
theorem unlikeC_no {σ : St} {la fn : Nat} (h7 : σ.1 2 7 = nI la) (hla : la ≤ 6) (hf : σ.1 21 7 = nI fn) (hfn : fn ≤ 300) {a1 a2 a3 a4 a5 : Int32} (h : ¬ (inN la a1 ∧ inN la a2 ∧ inN (fn + 1) a5 ∧ inN 400 a3 ∧ inN 400 a4 ∧ a3 ≤ a4)) : fX5_unlike σ a1 a2 a3 a4 a5 = some (-1, σ) := by
  unfold fX5_unlike
  rw [isLandC h7 hla, qcall_s, qlet_e]
  by_cases c1 : inN la a1
  · rw [b01_t c1, if10, isLandC h7 hla, qcall_s]
    by_cases c2 : inN la a2
    · rw [b01_t c2, if10, knownC hf hfn, qcall_s]
      by_cases c3 : inN (fn + 1) a5
      · rw [b01_t c3, if10, evC, qcall_s, qlet_e]
        by_cases c4 : inN 400 a3
        · rw [b01_t c4, if10, evC, qcall_s]
          by_cases c5 : inN 400 a4
          · rw [b01_t c5, if10, if_neg (fun q => h ⟨c1, c2, c3, c4, c5, q⟩)]
          · rw [b01_f c5, if00]
        · rw [b01_f c4, if00]
      · rw [b01_f c3, if00]
    · rw [b01_f c2, if00]
  · rw [b01_f c1, if00]
theorem unlikeM_no {μ : St} {la fn : Nat} (h7 : μ.1 0 37 = nI la) (hla : la ≤ 6) (hf : μ.1 0 45 = nI fn) (hfn : fn ≤ 300) {a1 a2 a3 a4 a5 : Int32} (h : ¬ (inN la a1 ∧ inN la a2 ∧ inN (fn + 1) a5 ∧ inN 400 a3 ∧ inN 400 a4 ∧ a3 ≤ a4)) : fX6_unlike μ a1 a2 a3 a4 a5 = some (-1, μ) := by
  unfold fX6_unlike
  rw [isLandM h7 hla, qcall_s, qlet_e]
  by_cases c1 : inN la a1
  · rw [b01_t c1, if10, isLandM h7 hla, qcall_s]
    by_cases c2 : inN la a2
    · rw [b01_t c2, if10, evM, qcall_s]
      by_cases c4 : inN 400 a3
      · rw [b01_t c4, if10, evM, qcall_s]
        by_cases c5 : inN 400 a4
        · rw [b01_t c5, if10]
          by_cases c6 : a4 < a3
          · rw [if_pos c6]
          · rw [if_neg c6, knownM hf hfn, qcall_s, b01_f (fun q => h ⟨c1, c2, q, c4, c5, by rw [fa_lt] at c6; rw [fa_le]; omega⟩), if00]
        · rw [b01_f c5, if00]
      · rw [b01_f c4, if00]
    · rw [b01_f c2, if00]
  · rw [b01_f c1, if00]
theorem unlikeC_yes {σ σ' : St} {la fn : Nat} (h7 : σ.1 2 7 = nI la) (hla : la ≤ 6) (hf : σ.1 21 7 = nI fn) (hfn : fn ≤ 300) {a1 a2 a3 a4 a5 : Int32} (h : inN la a1 ∧ inN la a2 ∧ inN (fn + 1) a5 ∧ inN 400 a3 ∧ inN 400 a4 ∧ a3 ≤ a4) (hs : fX1_standBy σ a5 = some (0, σ')) : fX5_unlike σ a1 a2 a3 a4 a5 = fX5_unlike_L a1 a2 a3 a4 a5 100000 0 a3 σ' := by
  obtain ⟨c1, c2, c3, c4, c5, c6⟩ := h
  unfold fX5_unlike
  rw [isLandC h7 hla, qcall_s, qlet_e, b01_t c1, if10, isLandC h7 hla, qcall_s, b01_t c2, if10, knownC hf hfn, qcall_s, b01_t c3, if10, evC, qcall_s, qlet_e, b01_t c4, if10, evC, qcall_s, b01_t c5, if10, if_pos c6, hs, qcall_s]
theorem unlikeM_yes {μ μ' : St} {la fn : Nat} (h7 : μ.1 0 37 = nI la) (hla : la ≤ 6) (hf : μ.1 0 45 = nI fn) (hfn : fn ≤ 300) {a1 a2 a3 a4 a5 : Int32} (h : inN la a1 ∧ inN la a2 ∧ inN (fn + 1) a5 ∧ inN 400 a3 ∧ inN 400 a4 ∧ a3 ≤ a4) (hs : fX6_goes μ a5 = some (0, μ')) : fX6_unlike μ a1 a2 a3 a4 a5 = fX6_unlike_L a1 a2 a3 a4 a5 100000 0 a3 μ' := by
  obtain ⟨c1, c2, c3, c4, c5, c6⟩ := h
  unfold fX6_unlike
  rw [isLandM h7 hla, qcall_s, qlet_e, b01_t c1, if10, isLandM h7 hla, qcall_s, b01_t c2, if10, evM, qcall_s, b01_t c4, if10, evM, qcall_s, b01_t c5, if10, if_neg (show ¬ a4 < a3 by rw [fa_lt]; rw [fa_le] at c6; omega), knownM hf hfn, qcall_s, b01_t c3, if10, hs, qcall_s]
theorem p_unlike {σ μ : St} {mo la wn fn : Nat} (I : Inv σ μ mo la wn fn) (a1 a2 a3 a4 a5 : Int32) : ∃ r σ' μ', fX5_unlike σ a1 a2 a3 a4 a5 = some (r, σ') ∧ fX6_unlike μ a1 a2 a3 a4 a5 = some (r, μ') ∧ Inv σ' μ' mo la wn fn := by
  obtain ⟨W, F, -⟩ := id I
  have hla := W.2.1
  have hfn := F.2.1
  by_cases h : inN la a1 ∧ inN la a2 ∧ inN (fn + 1) a5 ∧ inN 400 a3 ∧ inN 400 a4 ∧ a3 ≤ a4
  · obtain ⟨⟨l1, hl1, e1⟩, ⟨l2, hl2, e2⟩, ⟨n, hn, e5⟩, ⟨x, hx, e3⟩, ⟨y, hy, e4⟩, hxy⟩ := id h
    obtain ⟨σ', μ', c1, c2, c3, c4, c5, -⟩ := I.stand (n := n) (by omega)
    rw [unlikeC_yes W.2.2.2.2.1 hla F.2.2.2.2.1 hfn h (by rw [e5]; exact c1), unlikeM_yes W.2.2.2.2.2.1 hla F.2.2.2.2.2.1 hfn h (by rw [e5]; exact c2)]
    have hxy2 : x ≤ y := by
      rw [e3, e4] at hxy
      exact (nI_leI (by omega) (by omega)).mp hxy
    obtain ⟨r, r1, r2⟩ := unlike_run (a3 := a3) (a5 := a5) (show l1 < 6 by omega) (show l2 < 6 by omega) hy (c5 l1 hl1) (c5 l2 hl2) (y + 1 - x) x 100000 100000 0 (by omega) (by omega) (by omega)
    rw [← e1, ← e2, ← e3, ← e4] at r1 r2
    exact ⟨r, σ', μ', r1, r2, c3⟩
  · rw [unlikeC_no W.2.2.2.2.1 hla F.2.2.2.2.1 hfn h, unlikeM_no W.2.2.2.2.2.1 hla F.2.2.2.2.2.1 hfn h]
    exact ⟨_, σ, μ, rfl, rfl, I⟩
/-- rows that nothing between calls speaks of -/
theorem Inv.side {σ σ' μ μ' : St} {mo la wn fn : Nat} (I : Inv σ μ mo la wn fn) (h : ∀ i, i ≠ 60 → σ'.1 i = σ.1 i) (h2 : σ'.2 = σ.2) (g : ∀ i, i ≠ 41 → μ'.1 i = μ.1 i) (g2 : μ'.2 = μ.2 := by rfl) : Inv σ' μ' mo la wn fn := by
  obtain ⟨W, F, T, P, J, S, X⟩ := I
  have hla := W.2.1
  refine ⟨(W.congr (fun i h1 h2 => h i (by omega))).congrM (fun i h1 h2 => g i (by omega)) (by rw [g 0 (by omega)]) (by rw [g 0 (by omega)]), (F.congr (fun i h1 h2 => h i (by omega)) (by rw [h 21 (by omega)]) (by rw [h 21 (by omega)])).congrM (fun i h1 h2 => g i (by omega)) (by rw [g 0 (by omega)]) (by rw [g 0 (by omega)]), ?_, by rw [h 0 (by omega), g 0 (by omega)]; exact P, ?_, ?_, X.mono ⟨fun i h1 h3 h4 => h i (by omega), by rw [h2]⟩ (fun i h1 h3 => g i (by omega)) g2⟩
  · unfold InvT
    rw [h 0 (by omega), h 1 (by omega), g 0 (by omega), g 1 (by omega)]
    exact T
  · rcases J with q | ⟨k, hk, q⟩
    · exact Or.inl (by rw [h 21 (by omega)]; exact q)
    · exact Or.inr ⟨k, hk, (q.congr (by rw [h 21 (by omega)]) (h 32 (by omega))).congrM (fun i h1 h3 => g i (by omega))⟩
  · unfold InvS
    rw [h 36 (by omega), g 0 (by omega)]
    exact ⟨S.1, S.2.imp id (fun q => ⟨q.1, fun l hl => (q.2 l hl).congr (fun i hi => h i (by omega)) (fun i hi => g i (by omega))⟩)⟩
