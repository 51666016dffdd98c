-- ===== the rules of a land answer alike =====
def TX (σ σ1 : St) : Prop := (∀ i, 61 ≤ i → i ≤ 95 → (i - 61) % 5 ≠ 4 → σ1.1 i = σ.1 i) ∧ σ1.2.2 = σ.2.2
def MX (μ μ1 : St) : Prop := ∀ i, 8 ≤ i → i ≤ 20 → μ1.1 i = μ.1 i
def VarsR (σ μ : St) : Prop := ∀ i, i < 8 → σ.1 59 (6 + i) = μ.1 38 i
def RuleR (σ μ : St) (l : Nat) : Prop := σ.2.2 l < 7 ∧ ∀ s, s < 3 → ∃ h : Int32, (∀ σ1, TX σ σ1 → fX3_hasRule σ1 (σ.2.2 l) (nI s) = some (h, σ1)) ∧ ∀ σ1 μ1, TX σ σ1 → MX μ μ1 → VarsR σ1 μ1 → ∃ (r : Int32) (σ2 μ2 : St), fX3_firstThatHolds σ1 (σ.2.2 l) (nI s) = some (r, σ2) ∧ fX6_ruleOf μ1 (nI l) (nI s) = some (r, μ2) ∧ (∀ i, i ≠ 61 + 5 * σ.2.2 l + 4 → σ2.1 i = σ1.1 i) ∧ σ2.2 = σ1.2 ∧ (∀ i, i ≠ 39 → μ2.1 i = μ1.1 i) ∧ μ2.2 = μ1.2 ∧ (h = 0 → r = -1) ∧ (r = -1 ∨ ∃ k, k < 12 ∧ r = nI k)
theorem TX.rf (σ : St) : TX σ σ := ⟨fun _ _ _ _ => rfl, rfl⟩
theorem TX.trans {a b c : St} (h : TX a b) (g : TX b c) : TX a c := ⟨fun i h1 h2 h3 => (g.1 i h1 h2 h3).trans (h.1 i h1 h2 h3), g.2.trans h.2⟩
theorem MX.rf (μ : St) : MX μ μ := fun _ _ _ => rfl
theorem MX.trans {a b c : St} (h : MX a b) (g : MX b c) : MX a c := fun i h1 h2 => (g i h1 h2).trans (h i h1 h2)
theorem TX.stack {σ1 σ2 : St} {t : Nat} (h : ∀ i, i ≠ 61 + 5 * t + 4 → σ2.1 i = σ1.1 i) (h2 : σ2.2 = σ1.2) : TX σ1 σ2 := ⟨fun i h1 h3 h4 => h i (by omega), by rw [h2]⟩
theorem VarsR.keep {σ σ' μ μ' : St} (V : VarsR σ μ) (h : σ'.1 59 = σ.1 59) (g : μ'.1 38 = μ.1 38) : VarsR σ' μ' := fun i hi => by rw [h, g]; exact V i hi
/-- what an evening may change in the class -/
def KeepC1 (σ σ' : St) (l : Nat) : Prop := (∀ i, i ≠ 36 → i ≠ 58 → i ≠ 59 → i ≠ 38 + l → i ≠ 45 + l → i ≠ 52 + l → i ≠ 61 + 5 * σ.2.2 l + 4 → σ'.1 i = σ.1 i) ∧ (∀ i, i ≠ 8 → σ'.1 36 i = σ.1 36 i) ∧ (∀ o, o ≠ l → σ'.1 58 o = σ.1 58 o) ∧ σ'.2 = σ.2
def KeepM1 (μ μ' : St) (l : Nat) : Prop := (∀ i, i < 32 ∨ 40 < i → μ'.1 i = μ.1 i) ∧ (∀ o, o ≠ l → μ'.1 32 o = μ.1 32 o) ∧ (∀ i, 33 ≤ i → i ≤ 37 → ∀ o k, o ≠ l → k < 16 → μ'.1 i (16 * o + k) = μ.1 i (16 * o + k)) ∧ μ'.2 = μ.2
theorem LandR.congr2 {σ σ' μ μ' : St} {l D : Nat} (R : LandR σ μ l D) (h58 : σ'.1 58 l = σ.1 58 l) (h1 : ∀ i, i = 38 + l ∨ i = 45 + l ∨ i = 52 + l → σ'.1 i = σ.1 i) (h24 : μ'.1 24 = μ.1 24) (h32 : μ'.1 32 l = μ.1 32 l) (h2 : ∀ i, 33 ≤ i → i ≤ 37 → ∀ k, k < 16 → μ'.1 i (16 * l + k) = μ.1 i (16 * l + k)) : LandR σ' μ' l D := by
  obtain ⟨fe, hfe, r1, r2⟩ := R
  have a38 := h1 (38 + l) (by omega)
  have a45 := h1 (45 + l) (by omega)
  have a52 := h1 (52 + l) (by omega)
  refine ⟨fe, hfe, by rw [h24]; exact r1, ?_⟩
  rcases r2 with ⟨q, w⟩ | ⟨q, m, b, hb, B⟩
  · left
    refine ⟨q, ?_⟩
    unfold Waits
    rw [h32, h58, a38, a45]
    exact w
  · right
    refine ⟨q, m, b, hb, ?_⟩
    obtain ⟨b1, b2, b3, b4, b5, b6, b7, b8, b9⟩ := B
    refine ⟨b1, by rw [h58]; exact b2, by rw [h32]; exact b3, b4, b5, fun k hk => ?_, fun k hk1 hk => ?_, fun k hk1 hk => ?_, fun q => ?_⟩
    · rw [a38, a45, h2 33 (by omega) (by omega) k (by omega), h2 34 (by omega) (by omega) k (by omega), h2 36 (by omega) (by omega) k (by omega), h2 37 (by omega) (by omega) k (by omega)]
      exact b6 k hk
    · rw [a52, h2 35 (by omega) (by omega) k (by omega)]
      exact b7 k hk1 hk
    · rw [a38, a45]
      exact b8 k hk1 hk
    · rw [h2 34 (by omega) (by omega) m (by omega)] at q
      exact b9 q
theorem Begun.later {σ μ : St} {l D m : Nat} {b : Nat → Nat} (B : Begun σ μ l D m b) : Begun σ μ l (D + 1) m b := by
  obtain ⟨b1, b2, b3, b4, b5, b6, b7, b8, b9⟩ := B
  exact ⟨b1, b2, b3, b4, by omega, b6, b7, b8, b9⟩
theorem Begun.congr {σ σ' μ μ' : St} {l D m : Nat} {b : Nat → Nat} (B : Begun σ μ l D m b) (h1 : ∀ i, i = 58 ∨ i = 38 + l ∨ i = 45 + l ∨ i = 52 + l → σ'.1 i = σ.1 i) (h2 : ∀ i, 32 ≤ i → i ≤ 37 → μ'.1 i = μ.1 i) : Begun σ' μ' l D m b := by
  unfold Begun
  rw [h2 32 (by omega) (by omega), h2 33 (by omega) (by omega), h2 34 (by omega) (by omega), h2 35 (by omega) (by omega), h2 36 (by omega) (by omega), h2 37 (by omega) (by omega), h1 58 (by omega), h1 (38 + l) (by omega), h1 (45 + l) (by omega), h1 (52 + l) (by omega)]
  exact B
/-- both sides ask for their variables -/
theorem ask_both {σ μ : St} {mo la wn fn n l t d e m bm days : Nat} {E : Nat → Nat} (W : InvW σ μ mo la) (F : InvF σ μ la wn fn) (J : Judged σ μ mo n) (hn : n ≤ fn) (hl : l < la) (ht1 : 1 ≤ t) (ht : t ≤ 14) (hd : d < 400) (he : e < 400) (hD : ∀ o, o < la → E o ≤ 400 ∧ LandR σ μ o (E o)) (h6 : σ.1 59 6 = nI days) (h13 : σ.1 59 13 = nI t) (hm : m ≤ 13) (h32 : μ.1 32 l = nI (m + 1)) (h33 : μ.1 33 (16 * l + m) = nI bm) (hb : bm + days = d) : ∃ σ' μ', fX1_askVars σ (nI l) (nI d) (nI e) = some (0, σ') ∧ fX6_asks μ (nI l) (nI d) (nI e) (nI t) (nI n) = some (0, μ') ∧ VarsR σ' μ' ∧ (∀ i, i ≠ 36 → i ≠ 59 → σ'.1 i = σ.1 i) ∧ (∀ i, i ≠ 8 → σ'.1 36 i = σ.1 36 i) ∧ σ'.2 = σ.2 ∧ KeepM μ μ' := by
  obtain ⟨σ', a1, a2, a3, a4, c6, c7, c8, c9, c10, c11, c12, c13⟩ := fX1_askVars_is W F J hn hl ht1 ht hd he hD h13
  obtain ⟨μ', b1, b2, d0, d1, d2, d3, d4, d5, d6, d7⟩ := fX6_asks_is W F hn hl ht hd he hm h32 h33
  refine ⟨σ', μ', a1, b1, fun i hi => ?_, a2, a3, a4, b2⟩
  rcases (show i = 0 ∨ i = 1 ∨ i = 2 ∨ i = 3 ∨ i = 4 ∨ i = 5 ∨ i = 6 ∨ i = 7 by omega) with rfl | rfl | rfl | rfl | rfl | rfl | rfl | rfl
  · rw [c6, h6, d0, pk_sub (by omega), show d - bm = days by omega]
  · rw [c7, d1]
  · rw [c8, d2]
  · rw [c9, d3]
  · rw [c10, d4]
  · rw [c11, d5]
  · rw [c12, d6]
  · rw [c13, d7]
