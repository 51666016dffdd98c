-- ===== heard, turn =====
theorem heard_run {σ μ : St} {mo la wn fn n l t c bt : Nat} {a3 : Int32} (W : InvW σ μ mo la) (F : InvF σ μ la wn fn) (J : Judged σ μ mo n) (hn : n ≤ fn) (hl : l < 6) (ht : t < 15) (hc : c < 400) (hbt : bt < 400) (h52 : σ.1 (52 + l) t = nI c) (h38 : σ.1 (38 + l) t = nI bt) (m35 : μ.1 35 (16 * l + t) = nI c) (m36 : μ.1 36 (16 * l + t) = nI bt) : ∀ (j k N N' : Nat) (v : Int32), j + k = n → j < N → j < N' → ∃ r, fX1_heardReport_L (nI l) (nI t) a3 N v (nI k) σ = some (r, σ) ∧ fX6_heard_L (nI l) (nI t) a3 (nI n) N' v (nI k) μ = some (r, μ)
  | 0, k, N + 1, N' + 1, v, e, _, _ => by
    have hfn := F.2.1
    have : k = n := by omega
    subst this
    rw [fX1_heardReport_L, fX6_heard_L, J.1, if_pos (nI_le (Nat.le_refl _) (by omega)), if_pos (nI_le (Nat.le_refl _) (by omega))]
    exact ⟨_, rfl, rfl⟩
  | j + 1, k, N + 1, N' + 1, v, e, h1, h2 => by
    have hfn := F.2.1
    have e16 : (16 : Int32) * nI l + nI t = nI (16 * l + t) := by rw [show (16 : Int32) = nI 16 from rfl, pk_mul, nI_add]
    rw [fX1_heardReport_L, fX6_heard_L, J.1, if_neg (nI_ge (by omega) (by omega)), if_neg (nI_ge (by omega) (by omega))]
    simp only [qix_nI hl (show 6 ≤ 2 ^ 31 by omega), qix_nI ht (show 15 ≤ 2 ^ 31 by omega), nI_clamp (show l < 2 ^ 31 by omega), nI_clamp (show t < 2 ^ 31 by omega), e16, qix_nI (show 16 * l + t < 96 by omega) (show 96 ≤ 2 ^ 31 by omega), nI_clamp (show 16 * l + t < 2 ^ 31 by omega), h52, h38, m35, m36]
    rw [fX0_isHeard_is W F J hn (by omega) hl hc hbt, fX6_isHeard_is W F hn (by omega) hl, qcall_s, qcall_s]
    simp only [qlet, nI_1]
    by_cases q : hearS μ mo l (nI c) (nI bt) n k
    · rw [if_pos q, if10, if10]
      by_cases q2 : v = 0
      · rw [if_pos q2, if_pos q2]
        exact ⟨_, rfl, rfl⟩
      · rw [if_neg q2, if_neg q2]
        exact heard_run W F J hn hl ht hc hbt h52 h38 m35 m36 j (k + 1) N N' _ (by omega) (by omega) (by omega)
    · rw [if_neg q, if00, if00]
      exact heard_run W F J hn hl ht hc hbt h52 h38 m35 m36 j (k + 1) N N' v (by omega) (by omega) (by omega)
theorem p_heard {σ μ : St} {mo la wn fn : Nat} (I : Inv σ μ mo la wn fn) (a1 a2 a3 a4 : Int32) : ∃ r σ' μ', fX5_heard σ a1 a2 a3 a4 = some (r, σ') ∧ fX6_heard μ a1 a2 a3 a4 = some (r, μ') ∧ Inv σ' μ' mo la wn fn := by
  obtain ⟨W, F, -⟩ := id I
  have hla := W.2.1
  have hfn := F.2.1
  unfold fX5_heard fX6_heard
  rw [show fX5_isAsked σ a1 a2 1 a4 = _ from asked_is (lo := 1) W.2.2.2.2.1 hla F.2.2.2.2.1 hfn (by omega) a1 a2 a4, isLandM W.2.2.2.2.2.1 hla, qcall_s, qcall_s]
  simp only [qlet]
  by_cases h1 : inN la a1
  · rw [b01_t h1, if10, monM, qcall_s]
    by_cases h2 : inN 15 a2
    · rw [b01_t h2, if10]
      obtain ⟨m, hm, rfl⟩ := h2
      by_cases h0 : m = 0
      · subst h0
        rw [if_pos nI_0, b01_f (fun q => by
          obtain ⟨k, hk, hk2, e⟩ := q.2.1
          have := (nI_eq (by omega) (by omega)).mp e
          omega), if00]
        exact ⟨_, σ, μ, rfl, rfl, I⟩
      · rw [if_neg (nI_ne0 (by omega) (by omega))]
        by_cases h3 : inN (fn + 1) a4
        · rw [b01_t ⟨h1, ⟨m, by omega, hm, rfl⟩, h3⟩, if10]
          by_cases h4 : a3 < 0
          · rw [if_pos h4, if_neg (fun q => by rw [fa_lt] at h4; rw [fa_le] at q; omega)]
            exact ⟨_, σ, μ, rfl, rfl, I⟩
          · rw [if_neg h4, if_pos (by rw [fa_lt] at h4; rw [fa_le]; omega), knownM F.2.2.2.2.2.1 hfn, qcall_s, b01_t h3, if10]
            obtain ⟨l, hl, rfl⟩ := h1
            obtain ⟨n, hn, rfl⟩ := h3
            obtain ⟨σ', μ', c1, c2, c3, c4, c5, -⟩ := I.stand (n := n) (by omega)
            rw [c1, c2, qcall_s, qcall_s, qix_nI (show l < 6 by omega) (by omega), nI_clamp (show l < 2 ^ 31 by omega)]
            unfold fX1_heardReport
            rw [qix_nI (show l < 6 by omega) (by omega), qix_nI hm (by omega), nI_clamp (show l < 2 ^ 31 by omega), nI_clamp (show m < 2 ^ 31 by omega)]
            obtain ⟨mm, b, B⟩ := (c5 l hl).done
            have hle := fun (q : m ≤ mm) => B.le q
            obtain ⟨b1, b2, b3, b4, b5, b6, b7, b8, b9⟩ := B
            rw [b3]
            by_cases h : m < mm + 1
            · have hb400 := hle (by omega)
              obtain ⟨z1, c, hc, z2⟩ := b7 m (by omega) (by omega)
              obtain ⟨y1, y2, y3, -⟩ := b6 m (by omega)
              rw [if_pos (nI_lt h (by omega)), y1, if_neg (nI_neg1 (by omega))]
              obtain ⟨r, r1, r2⟩ := heard_run (a3 := a3) c3.1 c3.2.1 c4 (show n ≤ fn by omega) (show l < 6 by omega) hm hc (show b m < 400 by omega) (z1.trans z2) y1 z2 y3 n 0 100000 100000 a3 (by omega) (by omega) (by omega)
              rw [show (0 : Int32) = nI 0 from rfl, r1, r2, qcall_s]
              exact ⟨r, σ', μ', rfl, rfl, c3⟩
            · rw [if_neg (nI_nlt (by omega) (by omega)), (b8 m (by omega) hm).1, if_pos rfl, qcall_s]
              exact ⟨_, σ', μ', rfl, rfl, c3⟩
        · rw [b01_f (fun q => h3 q.2.2), if00]
          by_cases h4 : a3 < 0
          · rw [if_pos h4]
            exact ⟨_, σ, μ, rfl, rfl, I⟩
          · rw [if_neg h4, knownM F.2.2.2.2.2.1 hfn, qcall_s, b01_f h3, if00]
            exact ⟨_, σ, μ, rfl, rfl, I⟩
    · rw [b01_f h2, if00, b01_f (fun q => h2 (by obtain ⟨m, -, hm, e⟩ := q.2.1; exact ⟨m, hm, e⟩)), if00]
      exact ⟨_, σ, μ, rfl, rfl, I⟩
  · rw [b01_f h1, if00, b01_f (fun q => h1 q.1), if00]
    exact ⟨_, σ, μ, rfl, rfl, I⟩
