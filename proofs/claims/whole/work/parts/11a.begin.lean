-- ===== a month begins =====
def KeepCl (σ σ' : St) (l : Nat) : Prop := (∀ i, i ≠ 58 → i ≠ 38 + l → i ≠ 45 + l → i ≠ 52 + l → σ'.1 i = σ.1 i) ∧ (∀ o, o ≠ l → σ'.1 58 o = σ.1 58 o) ∧ σ'.2 = σ.2
def KeepMl (μ μ' : St) (l : Nat) : Prop := (∀ i, i < 32 ∨ 37 < i → μ'.1 i = μ.1 i) ∧ (∀ o, o ≠ l → μ'.1 32 o = μ.1 32 o) ∧ (∀ i, 33 ≤ i → i ≤ 37 → ∀ o k, o ≠ l → k < 16 → μ'.1 i (16 * o + k) = μ.1 i (16 * o + k)) ∧ μ'.2 = μ.2
theorem fX1_beginMonth_is {σ : St} {l m : Nat} {d r : Int32} (hl : l < 6) (hm : m ≤ 13) (h58 : σ.1 58 l = nI m) : fX1_beginMonth σ (nI l) d r = some (0, sI (sI (sI (sI σ 58 l (nI (m + 1))) (38 + l) (m + 1) d) (45 + l) (m + 1) r) (52 + l) (m + 1) d) := by
  unfold fX1_beginMonth
  simp only [qix_nI hl (show 6 ≤ 2 ^ 31 by omega), nI_clamp (show l < 2 ^ 31 by omega), h58, nI_1, qlet]
  rw [if_neg (show ¬ (14 : Int32) < nI (m + 1) from nI_nlt (a := 14) (b := m + 1) (by omega) (by omega))]
  simp only [qix_nI (show m + 1 < 15 by omega) (show 15 ≤ 2 ^ 31 by omega), nI_clamp (show m + 1 < 2 ^ 31 by omega)]
theorem fX6_adds_is {μ : St} {l m : Nat} {d r : Int32} (hl : l < 6) (hm : m ≤ 14) (h32 : μ.1 32 l = nI m) : fX6_adds μ (nI l) d r = some (0, sI (sI (sI (sI (sI (sI μ 33 (16 * l + m) d) 34 (16 * l + m) r) 35 (16 * l + m) d) 36 (16 * l + m) d) 37 (16 * l + m) (if r = -2 then 1 else 0)) 32 l (nI (m + 1))) := by
  unfold fX6_adds
  have e16 : (16 : Int32) * nI l + nI m = nI (16 * l + m) := by rw [show (16 : Int32) = nI 16 from rfl, pk_mul, nI_add]
  simp only [qix_nI hl (show 6 ≤ 2 ^ 31 by omega), nI_clamp (show l < 2 ^ 31 by omega), h32, qlet, e16]
  rw [if_neg (show ¬ nI m = (16 : Int32) from fun q => absurd ((nI_eq (a := m) (b := 16) (by omega) (by omega)).mp q) (by omega))]
  simp only [qix_nI (show 16 * l + m < 96 by omega) (show 96 ≤ 2 ^ 31 by omega), nI_clamp (show 16 * l + m < 2 ^ 31 by omega)]
  have h : ∀ v : Int32, (sI (sI (sI (sI (sI μ 33 (16 * l + m) d) 34 (16 * l + m) r) 35 (16 * l + m) d) 36 (16 * l + m) d) 37 (16 * l + m) v).1 32 l = nI m := fun v => by
    rw [sI_n _ _ _ _ (by omega), sI_n _ _ _ _ (by omega), sI_n _ _ _ _ (by omega), sI_n _ _ _ _ (by omega), sI_n _ _ _ _ (by omega), h32]
  by_cases q : r = -2
  · rw [if_pos q, if_pos q, nar1, h, nI_1]
  · rw [if_neg q, if_neg q, nar0, h, nI_1]
theorem adds_keep {μ : St} {l m : Nat} {d r v w : Int32} (hm : m ≤ 14) : KeepMl μ (sI (sI (sI (sI (sI (sI μ 33 (16 * l + m) d) 34 (16 * l + m) r) 35 (16 * l + m) d) 36 (16 * l + m) d) 37 (16 * l + m) v) 32 l w) l := by
  have row : ∀ (i j : Nat) (x : Int32) (ν : St) (o k : Nat), o ≠ l → k < 16 → (sI ν j (16 * l + m) x).1 i (16 * o + k) = ν.1 i (16 * o + k) := fun i j x ν o k ho hk => by
    by_cases q : i = j
    · subst q
      rw [sI_s, upd_n _ _ (by omega)]
    · rw [sI_n _ _ _ _ q]
  refine ⟨fun i hi => ?_, fun o ho => ?_, fun i h1 h2 o k ho hk => ?_, rfl⟩
  · rw [sI_n _ _ _ _ (by omega), sI_n _ _ _ _ (by omega), sI_n _ _ _ _ (by omega), sI_n _ _ _ _ (by omega), sI_n _ _ _ _ (by omega), sI_n _ _ _ _ (by omega)]
  · rw [sI_s, upd_n _ _ ho, sI_n _ _ _ _ (by omega), sI_n _ _ _ _ (by omega), sI_n _ _ _ _ (by omega), sI_n _ _ _ _ (by omega), sI_n _ _ _ _ (by omega)]
  · rw [sI_n _ _ _ _ (by omega), row _ _ _ _ _ _ ho hk, row _ _ _ _ _ _ ho hk, row _ _ _ _ _ _ ho hk, row _ _ _ _ _ _ ho hk, row _ _ _ _ _ _ ho hk]
theorem adds_get {μ : St} {x : Nat} {l : Nat} {d r v w : Int32} (k : Nat) :
    (sI (sI (sI (sI (sI (sI μ 33 x d) 34 x r) 35 x d) 36 x d) 37 x v) 32 l w).1 33 k = upd (μ.1 33) x d k ∧
    (sI (sI (sI (sI (sI (sI μ 33 x d) 34 x r) 35 x d) 36 x d) 37 x v) 32 l w).1 34 k = upd (μ.1 34) x r k ∧
    (sI (sI (sI (sI (sI (sI μ 33 x d) 34 x r) 35 x d) 36 x d) 37 x v) 32 l w).1 35 k = upd (μ.1 35) x d k ∧
    (sI (sI (sI (sI (sI (sI μ 33 x d) 34 x r) 35 x d) 36 x d) 37 x v) 32 l w).1 36 k = upd (μ.1 36) x d k ∧
    (sI (sI (sI (sI (sI (sI μ 33 x d) 34 x r) 35 x d) 36 x d) 37 x v) 32 l w).1 37 k = upd (μ.1 37) x v k := by
  refine ⟨?_, ?_, ?_, ?_, ?_⟩
  · rw [sI_n _ _ _ _ (by omega), sI_n _ _ _ _ (by omega), sI_n _ _ _ _ (by omega), sI_n _ _ _ _ (by omega), sI_n _ _ _ _ (by omega), sI_s]
  · rw [sI_n _ _ _ _ (by omega), sI_n _ _ _ _ (by omega), sI_n _ _ _ _ (by omega), sI_n _ _ _ _ (by omega), sI_s, sI_n _ _ _ _ (by omega)]
  · rw [sI_n _ _ _ _ (by omega), sI_n _ _ _ _ (by omega), sI_n _ _ _ _ (by omega), sI_s, sI_n _ _ _ _ (by omega), sI_n _ _ _ _ (by omega)]
  · rw [sI_n _ _ _ _ (by omega), sI_n _ _ _ _ (by omega), sI_s, sI_n _ _ _ _ (by omega), sI_n _ _ _ _ (by omega), sI_n _ _ _ _ (by omega)]
  · rw [sI_n _ _ _ _ (by omega), sI_s, sI_n _ _ _ _ (by omega), sI_n _ _ _ _ (by omega), sI_n _ _ _ _ (by omega), sI_n _ _ _ _ (by omega)]
theorem begin_R {σ μ : St} {l d m : Nat} {b : Nat → Nat} {r : Int32} (B : Begun σ μ l d m b) (hl : l < 6) (hd : d < 400) (h29 : b m + 29 ≤ d) (hr : r = -2 → b m + 30 ≤ d) : ∃ σ' μ', fX1_beginMonth σ (nI l) (nI d) r = some (0, σ') ∧ fX6_adds μ (nI l) (nI d) r = some (0, μ') ∧ Begun σ' μ' l (d + 1) (m + 1) (fun k => if k = m + 1 then d else b k) ∧ KeepCl σ σ' l ∧ KeepMl μ μ' l := by
  have hlow := B.low m (Nat.le_refl m)
  obtain ⟨b1, b2, b3, b4, b5, b6, b7, b8, b9⟩ := B
  have hm12 : m + 1 ≤ 13 := by omega
  refine ⟨_, _, fX1_beginMonth_is hl b1 b2, fX6_adds_is hl (show m + 1 ≤ 14 by omega) b3, ⟨hm12, ?_, ?_, fun k hk => ?_, ?_, fun k hk => ?_, fun k h1 hk => ?_, fun k h1 h2 => ?_, fun q => ?_⟩, ⟨fun i h1 h2 h3 h4 => ?_, fun o ho => ?_, rfl⟩, adds_keep (show m + 1 ≤ 14 by omega)⟩
  · rw [sI_n _ _ _ _ (by omega), sI_n _ _ _ _ (by omega), sI_n _ _ _ _ (by omega), sI_s, upd_s]
  · rw [sI_s, upd_s]
  · show (if k = m + 1 then d else b k) + 29 ≤ (if k + 1 = m + 1 then d else b (k + 1))
    rw [if_neg (by omega)]
    by_cases q : k = m
    · subst q
      rw [if_pos rfl]
      exact h29
    · rw [if_neg (by omega)]
      exact b4 k (by omega)
  · show (if m + 1 = m + 1 then d else b (m + 1)) < d + 1
    rw [if_pos rfl]
    omega
  · obtain ⟨g1, g2, g3, g4, g5⟩ := adds_get (μ := μ) (x := 16 * l + (m + 1)) (l := l) (d := nI d) (r := r) (v := (if r = -2 then 1 else 0)) (w := nI (m + 1 + 1)) (16 * l + k)
    rw [g1, g2, g4, g5]
    by_cases q : k = m + 1
    · subst q
      rw [upd_s, upd_s, upd_s, upd_s]
      show _ = nI (if m + 1 = m + 1 then d else b (m + 1)) ∧ nI d = nI (if m + 1 = m + 1 then d else b (m + 1)) ∧ nI d = nI (if m + 1 = m + 1 then d else b (m + 1)) ∧ _ ∧ _
      rw [if_pos rfl]
      refine ⟨?_, rfl, rfl, ?_, rfl⟩
      · rw [sI_n _ _ _ _ (by omega), sI_n _ _ _ _ (by omega), sI_s, upd_s]
      · rw [sI_n _ _ _ _ (by omega), sI_s, upd_s]
    · rw [upd_n _ _ (by omega), upd_n _ _ (by omega), upd_n _ _ (by omega), upd_n _ _ (by omega)]
      show _ = nI (if k = m + 1 then d else b k) ∧ _ = nI (if k = m + 1 then d else b k) ∧ _ = nI (if k = m + 1 then d else b k) ∧ _ ∧ _
      rw [if_neg q]
      obtain ⟨c1, c2, c3, c4, c5⟩ := b6 k (by omega)
      refine ⟨?_, c2, c3, ?_, c5⟩
      · rw [sI_n _ _ _ _ (by omega), sI_n _ _ _ _ (by omega), sI_s, upd_n _ _ q, sI_n _ _ _ _ (by omega)]
        exact c1
      · rw [sI_n _ _ _ _ (by omega), sI_s, upd_n _ _ q, sI_n _ _ _ _ (by omega), sI_n _ _ _ _ (by omega)]
        exact c4
  · obtain ⟨g1, g2, g3, g4, g5⟩ := adds_get (μ := μ) (x := 16 * l + (m + 1)) (l := l) (d := nI d) (r := r) (v := (if r = -2 then 1 else 0)) (w := nI (m + 1 + 1)) (16 * l + k)
    rw [g3]
    by_cases q : k = m + 1
    · subst q
      rw [upd_s]
      exact ⟨by rw [sI_s, upd_s], d, hd, rfl⟩
    · rw [upd_n _ _ (by omega)]
      obtain ⟨c1, c2⟩ := b7 k h1 (by omega)
      exact ⟨by rw [sI_s, upd_n _ _ q, sI_n _ _ _ _ (by omega), sI_n _ _ _ _ (by omega), sI_n _ _ _ _ (by omega)]; exact c1, c2⟩
  · obtain ⟨c1, c2⟩ := b8 k (by omega) h2
    refine ⟨?_, ?_⟩
    · rw [sI_n _ _ _ _ (by omega), sI_n _ _ _ _ (by omega), sI_s, upd_n _ _ (by omega), sI_n _ _ _ _ (by omega)]
      exact c1
    · rw [sI_n _ _ _ _ (by omega), sI_s, upd_n _ _ (by omega), sI_n _ _ _ _ (by omega), sI_n _ _ _ _ (by omega)]
      exact c2
  · obtain ⟨g1, g2, g3, g4, g5⟩ := adds_get (μ := μ) (x := 16 * l + (m + 1)) (l := l) (d := nI d) (r := r) (v := (if r = -2 then 1 else 0)) (w := nI (m + 1 + 1)) (16 * l + (m + 1))
    rw [g2, upd_s] at q
    refine ⟨by omega, ?_⟩
    show (if m + 1 - 1 = m + 1 then d else b (m + 1 - 1)) + 30 ≤ (if m + 1 = m + 1 then d else b (m + 1))
    rw [if_neg (by omega), if_pos rfl]
    exact hr q
  · rw [sI_n _ _ _ _ h4, sI_n _ _ _ _ h3, sI_n _ _ _ _ h2, sI_n _ _ _ _ h1]
  · rw [sI_n _ _ _ _ (by omega), sI_n _ _ _ _ (by omega), sI_n _ _ _ _ (by omega), sI_s, upd_n _ _ ho]
