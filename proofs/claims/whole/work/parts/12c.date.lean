-- ===== dates =====
def dS (b : Nat → Nat) (d : Nat) : Nat → Int32
  | 0 => if d < b 0 then -1 else ((((100 : Int32) * nI 0) + nI d) - nI (b 0)) + 1
  | k + 1 => if d < b (k + 1) then dS b d k else ((((100 : Int32) * nI (k + 1)) + nI d) - nI (b (k + 1))) + 1
theorem dateC_run {σ : St} {l d m : Nat} {b : Nat → Nat} (hl : l < 6) (hm : m ≤ 13) (hd : d < 400) (hb : ∀ k, k ≤ m → σ.1 (38 + l) k = nI (b k) ∧ b k < 400) : ∀ (k N : Nat), k ≤ m → k + 1 < N → fX1_dateOn_L (nI l) (nI d) N (nI k) σ = some (dS b d k, σ)
  | 0, N + 1, hk, hN => by
    rw [fX1_dateOn_L, if_neg (nI_pos (by omega)), qix_nI hl (by omega), qix_nI (show 0 < 15 by omega) (by omega), nI_clamp (by omega), nI_clamp (by omega), qlet_e, (hb 0 hk).1, dS]
    by_cases q : d < b 0
    · rw [if_pos (nI_lt q (by have := (hb 0 hk).2; omega)), if_pos q, qlet_e]
      obtain ⟨N', rfl⟩ : ∃ N', N = N' + 1 := ⟨N - 1, by omega⟩
      rw [fX1_dateOn_L, if_pos (by decide)]
    · rw [if_neg (nI_nlt (by omega) (by omega)), if_neg q]
  | k + 1, N + 1, hk, hN => by
    rw [fX1_dateOn_L, if_neg (nI_pos (by omega)), qix_nI hl (by omega), qix_nI (show k + 1 < 15 by omega) (by omega), nI_clamp (by omega), nI_clamp (by omega), qlet_e, (hb (k + 1) hk).1, dS]
    by_cases q : d < b (k + 1)
    · rw [if_pos (nI_lt q (by have := (hb (k + 1) hk).2; omega)), if_pos q, qlet_e]
      have e : nI (k + 1) + -1 = nI k := pk_m1 k
      rw [e]
      exact dateC_run hl hm hd hb k N (by omega) (by omega)
    · rw [if_neg (nI_nlt (by omega) (by omega)), if_neg q]
theorem dS_stop {b : Nat → Nat} {d k : Nat} (hk : ¬ d < b k) : ∀ j, (∀ i, k < i → i ≤ k + j → d < b i) → dS b d (k + j) = ((((100 : Int32) * nI k) + nI d) - nI (b k)) + 1
  | 0, _ => by
    cases k with
    | zero => rw [Nat.add_zero, dS, if_neg hk]
    | succ k => rw [Nat.add_zero, dS, if_neg hk]
  | j + 1, h => by
    rw [show k + (j + 1) = (k + j) + 1 by omega, dS, if_pos (h (k + j + 1) (by omega) (by omega))]
    exact dS_stop hk j (fun i h1 h2 => h i h1 (by omega))
theorem dS_none {b : Nat → Nat} {d : Nat} : ∀ m, (∀ i, i ≤ m → d < b i) → dS b d m = -1
  | 0, h => by rw [dS, if_pos (h 0 (by omega))]
  | m + 1, h => by
    rw [dS, if_pos (h (m + 1) (by omega))]
    exact dS_none m (fun i hi => h i (by omega))
theorem dateM_run {μ : St} {l d m : Nat} {b : Nat → Nat} (hl : l < 6) (hm : m ≤ 13) (hd : d < 400) (h32 : μ.1 32 l = nI (m + 1)) (hb : ∀ k, k ≤ m → μ.1 33 (16 * l + k) = nI (b k) ∧ b k < 400) (hmono : ∀ i k, i ≤ k → k ≤ m → b i ≤ b k) : ∀ (j k N : Nat), j + k = m → ¬ d < b k → j < N → fX6_dateOf_L (nI l) (nI d) N (nI k) μ = some (dS b d m, μ)
  | j, k, N + 1, e, hk, hN => by
    have e16 : (16 : Int32) * nI l + nI k = nI (16 * l + k) := by rw [show (16 : Int32) = nI 16 from rfl, pk_mul, nI_add]
    have fin : (∀ i, k < i → i ≤ m → d < b i) → ((((100 : Int32) * nI k) + nI d) - nI (b k)) + 1 = dS b d m := fun h => by
      have := dS_stop hk j (fun i h1 h2 => h i h1 (by omega))
      rw [show k + j = m by omega] at this
      exact this.symm
    rw [fX6_dateOf_L, qix_nI hl (by omega), nI_clamp (by omega), h32]
    simp only [qlet, nI_1, e16, if_neg (nI_neg1 (show k < 2 ^ 31 by omega)), qix_nI (show 16 * l + k < 96 by omega) (show 96 ≤ 2 ^ 31 by omega), nI_clamp (show 16 * l + k < 2 ^ 31 by omega), (hb k (by omega)).1]
    by_cases q : m + 1 ≤ k + 1
    · rw [if_pos (nI_le q (by omega)), fin (fun i h1 h2 => absurd h2 (by omega))]
    · obtain ⟨j', rfl⟩ : ∃ j', j = j' + 1 := ⟨j - 1, by omega⟩
      rw [if_neg (nI_ge (by omega) (by omega)), qix_nI (show 16 * l + k + 1 < 96 by omega) (by omega), nI_clamp (by omega), show 16 * l + k + 1 = 16 * l + (k + 1) by omega, (hb (k + 1) (by omega)).1]
      by_cases q2 : d < b (k + 1)
      · rw [if_pos (nI_lt q2 (by have := (hb (k + 1) (by omega)).2; omega)), fin (fun i h1 h2 => by have := hmono (k + 1) i (by omega) h2; omega)]
      · rw [if_neg (nI_nlt (by omega) (by omega))]
        exact dateM_run hl hm hd h32 hb hmono j' (k + 1) N (by omega) q2 (by omega)
/-- a land's months when all evenings are through -/
theorem LandR.done {σ μ : St} {l : Nat} (R : LandR σ μ l 400) : ∃ m b, Begun σ μ l 400 m b := by
  obtain ⟨fe, hfe, r1, r2⟩ := R
  rcases r2 with ⟨q, w⟩ | ⟨q, m, b, hb, B⟩
  · exact absurd q (by omega)
  · exact ⟨m, b, B⟩
theorem fX1_dateOn_e (σ : St) {l : Nat} (hl : l < 6) (a : Int32) : fX1_dateOn σ (nI l) a = fX1_dateOn_L (nI l) a 100000 (σ.1 58 l) σ := by
  unfold fX1_dateOn
  rw [qix_nI hl (by omega), nI_clamp (by omega), qlet_e]
theorem dateM_gen {μ : St} {l d m : Nat} {b : Nat → Nat} (hl : l < 6) (hm : m ≤ 13) (hd : d < 400) (h32 : μ.1 32 l = nI (m + 1)) (hb : ∀ k, k ≤ m → μ.1 33 (16 * l + k) = nI (b k) ∧ b k < 400) (hmono : ∀ i k, i ≤ k → k ≤ m → b i ≤ b k) (N : Nat) (hN : 100 ≤ N) : fX6_dateOf_L (nI l) (nI d) N (-1) μ = some (dS b d m, μ) := by
  obtain ⟨N', rfl⟩ : ∃ N', N = N' + 1 := ⟨N - 1, by omega⟩
  have e16 : (16 : Int32) * nI l + -1 + 1 = nI (16 * l) := by
    rw [show (16 : Int32) = nI 16 from rfl, pk_mul, Int32.add_assoc]
    exact Int32.add_zero _
  rw [fX6_dateOf_L, qix_nI hl (by omega), nI_clamp (by omega), h32]
  simp only [qlet, e16]
  rw [if_neg (show ¬ nI (m + 1) ≤ (-1 : Int32) + 1 from nI_ge (a := 0) (by omega) (by omega)), qix_nI (show 16 * l < 96 by omega) (by omega), nI_clamp (by omega), show 16 * l = 16 * l + 0 by omega, (hb 0 (by omega)).1]
  by_cases q : d < b 0
  · rw [if_pos (nI_lt q (by have := (hb 0 (by omega)).2; omega)), if_pos trivial, dS_none m (fun i hi => by have := hmono 0 i (by omega) hi; omega)]
  · rw [if_neg (nI_nlt (by omega) (by omega)), show (-1 : Int32) + 1 = nI 0 from rfl]
    exact dateM_run hl hm hd h32 hb hmono m 0 N' (by omega) q (by omega)
theorem date_both {σ μ : St} {l d : Nat} (hl : l < 6) (hd : d < 400) (R : LandR σ μ l 400) : ∃ r, fX1_dateOn σ (nI l) (nI d) = some (r, σ) ∧ fX6_dateOf μ (nI l) (nI d) = some (r, μ) := by
  obtain ⟨m, b, B⟩ := R.done
  have hle : ∀ i k, i ≤ k → k ≤ m → b i ≤ b k := fun i k h1 h2 => by
    have := B.mono (j := i) (k - i) (by omega)
    rw [show i + (k - i) = k by omega] at this
    omega
  have hlt : ∀ k, k ≤ m → b k < 400 := fun k hk => by
    have := B.le hk
    have := B.2.2.2.2.1
    omega
  refine ⟨dS b d m, ?_, ?_⟩
  · rw [fX1_dateOn_e σ hl, B.2.1]
    exact dateC_run hl B.1 hd (fun k hk => ⟨(B.2.2.2.2.2.1 k hk).1, hlt k hk⟩) m 100000 (Nat.le_refl m) (by have := B.1; omega)
  · unfold fX6_dateOf
    exact dateM_gen hl B.1 hd B.2.2.1 (fun k hk => ⟨(B.2.2.2.2.2.1 k hk).2.1, hlt k hk⟩) hle 100000 (by omega)
theorem p_date {σ μ : St} {mo la wn fn : Nat} (I : Inv σ μ mo la wn fn) (a1 a2 a3 : Int32) : ∃ r σ' μ', fX5_date σ a1 a2 a3 = some (r, σ') ∧ fX6_date μ a1 a2 a3 = some (r, μ') ∧ Inv σ' μ' mo la wn fn := by
  obtain ⟨W, F, -⟩ := id I
  have hla := W.2.1
  have hfn := F.2.1
  unfold fX5_date fX6_date
  rw [isLandC W.2.2.2.2.1 hla, isLandM W.2.2.2.2.2.1 hla, qcall_s, qcall_s]
  simp only [qlet]
  by_cases h1 : inN la a1
  · rw [b01_t h1, if10, if10, evC, evM, qcall_s, qcall_s]
    by_cases h2 : inN 400 a2
    · rw [b01_t h2, if10, if10, knownC F.2.2.2.2.1 hfn, knownM F.2.2.2.2.2.1 hfn, qcall_s, qcall_s]
      by_cases h3 : inN (fn + 1) a3
      · rw [b01_t h3, if10, if10]
        obtain ⟨l, hl, rfl⟩ := h1
        obtain ⟨d, hd, rfl⟩ := h2
        obtain ⟨n, hn, rfl⟩ := h3
        obtain ⟨σ', μ', c1, c2, c3, c4, c5, -⟩ := I.stand (n := n) (by omega)
        obtain ⟨r, d1, d2⟩ := date_both (show l < 6 by omega) hd (c5 l hl)
        rw [c1, c2, qcall_s, qcall_s, d1, d2, qcall_s, qcall_s]
        exact ⟨r, σ', μ', rfl, rfl, c3⟩
      · rw [b01_f h3, if00, if00]
        exact ⟨_, σ, μ, rfl, rfl, I⟩
    · rw [b01_f h2, if00, if00]
      exact ⟨_, σ, μ, rfl, rfl, I⟩
  · rw [b01_f h1, if00, if00]
    exact ⟨_, σ, μ, rfl, rfl, I⟩
