-- ===== the months of a land, the class's and the reference's, when the evenings before D are through =====
def Begun (σ μ : St) (l D : Nat) (m : Nat) (b : Nat → Nat) : Prop :=
  m ≤ 13 ∧ σ.1 58 l = nI m ∧ μ.1 32 l = nI (m + 1) ∧ (∀ k, k < m → b k + 29 ≤ b (k + 1)) ∧ b m < D ∧
  (∀ k, k ≤ m → σ.1 (38 + l) k = nI (b k) ∧ μ.1 33 (16 * l + k) = nI (b k) ∧ μ.1 36 (16 * l + k) = nI (b k) ∧ σ.1 (45 + l) k = μ.1 34 (16 * l + k) ∧ μ.1 37 (16 * l + k) = (if μ.1 34 (16 * l + k) = -2 then 1 else 0)) ∧
  (∀ k, 1 ≤ k → k ≤ m → σ.1 (52 + l) k = μ.1 35 (16 * l + k) ∧ ∃ c, c < 400 ∧ μ.1 35 (16 * l + k) = nI c) ∧
  (∀ k, m < k → k < 15 → σ.1 (38 + l) k = -1 ∧ σ.1 (45 + l) k = -1) ∧
  (μ.1 34 (16 * l + m) = -2 → 1 ≤ m ∧ b (m - 1) + 30 ≤ b m)
def Waits (σ μ : St) (l : Nat) (fe : Nat) : Prop :=
  μ.1 32 l = 0 ∧ σ.1 58 l = 0 ∧ σ.1 (38 + l) 0 = nI fe ∧ σ.1 (45 + l) 0 = -1 ∧ ∀ k, 0 < k → k < 15 → σ.1 (38 + l) k = -1 ∧ σ.1 (45 + l) k = -1
def LandR (σ μ : St) (l D : Nat) : Prop := ∃ fe, fe < 400 ∧ μ.1 24 l = nI fe ∧ ((D ≤ fe ∧ Waits σ μ l fe) ∨ (fe < D ∧ ∃ m b, b 0 = fe ∧ Begun σ μ l D m b))
theorem Begun.low {σ μ : St} {l D m : Nat} {b : Nat → Nat} (h : Begun σ μ l D m b) : ∀ k, k ≤ m → b 0 + 29 * k ≤ b k
  | 0, _ => by omega
  | k + 1, hk => by
    have := h.low k (by omega)
    have := h.2.2.2.1 k (by omega)
    omega
theorem Begun.mono {σ μ : St} {l D m : Nat} {b : Nat → Nat} (h : Begun σ μ l D m b) {j : Nat} : ∀ k, j + k ≤ m → b j + 29 * k ≤ b (j + k)
  | 0, _ => by simp
  | k + 1, hk => by
    have := h.mono (j := j) k (by omega)
    have h2 := h.2.2.2.1 (j + k) (by omega)
    rw [show j + (k + 1) = j + k + 1 by omega]
    omega
theorem Begun.le {σ μ : St} {l D m : Nat} {b : Nat → Nat} (h : Begun σ μ l D m b) {k : Nat} (hk : k ≤ m) : b k ≤ b m := by
  have := h.mono (j := k) (m - k) (by omega)
  rw [show k + (m - k) = m by omega] at this
  omega
/-- only these cells matter -/
theorem LandR.congr {σ σ' μ μ' : St} {l D : Nat} (R : LandR σ μ l D) (h1 : ∀ i, i = 58 ∨ i = 38 + l ∨ i = 45 + l ∨ i = 52 + l → σ'.1 i = σ.1 i) (h2 : ∀ i, i = 24 ∨ (32 ≤ i ∧ i ≤ 37) → μ'.1 i = μ.1 i) : LandR σ' μ' l D := by
  obtain ⟨fe, hfe, r1, r2⟩ := R
  have a58 := h1 58 (by omega)
  have a38 := h1 (38 + l) (by omega)
  have a45 := h1 (45 + l) (by omega)
  have a52 := h1 (52 + l) (by omega)
  refine ⟨fe, hfe, by rw [h2 24 (by omega)]; exact r1, ?_⟩
  rcases r2 with ⟨q, w⟩ | ⟨q, m, b, hb, B⟩
  · left
    refine ⟨q, ?_⟩
    unfold Waits
    rw [h2 32 (by omega), a58, a38, a45]
    exact w
  · right
    refine ⟨q, m, b, hb, ?_⟩
    unfold Begun
    rw [h2 32 (by omega), h2 33 (by omega), h2 34 (by omega), h2 35 (by omega), h2 36 (by omega), h2 37 (by omega), a58, a38, a45, a52]
    exact B
/-- land o has begun a month of number t by evening e, and news is in land l by d -/
def othC (μ : St) (l t o : Nat) (d e : Int32) : Prop := ¬ o = l ∧ nI t < μ.1 32 o ∧ ¬ e < μ.1 33 (16 * o + t) ∧ newsS μ o l (μ.1 33 (16 * o + t)) d
noncomputable def othS (μ : St) (l t : Nat) (d e : Int32) : Nat → Int32
  | 0 => 0
  | o + 1 => by classical exact if othC μ l t o d e then othS μ l t d e o + 1 else othS μ l t d e o
theorem fX1_countOthers_run {σ μ : St} {mo la l t d e : Nat} {E : Nat → Nat} (W : InvW σ μ mo la) (hl : l < la) (ht1 : 1 ≤ t) (ht : t ≤ 14) (hd : d < 400) (he : e < 400) (hD : ∀ o, o < la → E o ≤ 400 ∧ LandR σ μ o (E o)) : ∀ (j k m : Nat), j + k = la → j < m → fX1_countOthers_L (nI l) (nI t) (nI d) (nI e) m (othS μ l t (nI d) (nI e) k) (nI k) σ = some (othS μ l t (nI d) (nI e) la, σ)
  | 0, k, m + 1, ek, _ => by
    have hla := W.2.1
    have : k = la := by omega
    subst this
    rw [fX1_countOthers_L, W.2.2.2.2.1, if_pos (nI_le (Nat.le_refl _) (by omega))]
  | j + 1, k, m + 1, ek, hm => by
    have hla := W.2.1
    have ih := fX1_countOthers_run W hl ht1 ht hd he hD j (k + 1) m (by omega) (by omega)
    rw [othS] at ih
    rw [fX1_countOthers_L, W.2.2.2.2.1, if_neg (nI_ge (by omega) (by omega))]
    simp only [qlet, nI_1]
    by_cases q1 : k = l
    · rw [if_pos (by rw [q1])]
      rw [if_neg (fun z => z.1 q1)] at ih
      exact ih
    · rw [if_neg (fun z => q1 ((nI_eq (by omega) (by omega)).mp z)), qix_nI (show k < 6 by omega) (by omega), nI_clamp (by omega)]
      obtain ⟨hE, fe, hfe, r1, r2⟩ := hD k (by omega)
      rcases r2 with ⟨q, w⟩ | ⟨q, mm, b, hb, B⟩
      · rw [w.2.1, if_pos (show (0 : Int32) < nI t from nI_lt (a := 0) (by omega) (by omega))]
        rw [if_neg (fun z => by have := z.2.1; rw [w.1] at this; exact absurd this (nI_pos (by omega)))] at ih
        exact ih
      · have hm13 := B.1
        rw [B.2.1]
        by_cases q2 : mm < t
        · rw [if_pos (nI_lt q2 (by omega))]
          rw [if_neg (fun z => by have := z.2.1; rw [B.2.2.1] at this; exact absurd this (nI_nlt (by omega) (by omega)))] at ih
          exact ih
        · have hbt := B.le (show t ≤ mm by omega)
          have hbm := B.2.2.2.2.1
          obtain ⟨g1, g2, -⟩ := B.2.2.2.2.2.1 t (by omega)
          rw [if_neg (nI_nlt (by omega) (by omega)), qix_nI (show k < 6 by omega) (by omega), qix_nI (show t < 15 by omega) (by omega), nI_clamp (show t < 2 ^ 31 by omega), g1]
          by_cases q3 : nI e < nI (b t)
          · rw [if_pos q3]
            rw [if_neg (fun z => z.2.2.1 (by rw [g2]; exact q3))] at ih
            exact ih
          · rw [if_neg q3, fX4_isNewsThere_is W (show k < 6 by omega) (show l < 6 by omega) hd (show b t < 400 by omega), qcall_s]
            by_cases q4 : newsS μ k l (nI (b t)) (nI d)
            · rw [if_pos q4, if_neg (by decide)]
              rw [if_pos ⟨q1, by rw [B.2.2.1]; exact nI_lt (by omega) (by omega), by rw [g2]; exact q3, by rw [g2]; exact q4⟩] at ih
              exact ih
            · rw [if_neg q4, if_pos rfl]
              rw [if_neg (fun z => q4 (by have := z.2.2.2; rw [g2] at this; exact this))] at ih
              exact ih
