-- ===== standing by n, going to n =====
def WaitsC (σ : St) (o : Nat) : Prop := σ.1 58 o = 0 ∧ σ.1 (38 + o) 0 = σ.1 5 o ∧ σ.1 (45 + o) 0 = -1 ∧ ∀ k, 0 < k → k < 15 → σ.1 (38 + o) k = -1 ∧ σ.1 (45 + o) k = -1
theorem KeepCl.s {σ σ' : St} {l : Nat} (h : KeepCl σ σ' l) (hl : l < 6) : KeepS σ σ' := ⟨fun i hi => h.1 i (by omega) (by omega) (by omega) (by omega), h.2.2⟩
theorem run0C {la n N : Nat} (hla : la ≤ 6) : ∀ (j k : Nat) (σ : St), j + k = la → σ.1 2 7 = nI la → (∀ o, o < k → WaitsC σ o) → ∃ σ', fX1_standBy_L (nI n) (N + 1 + j) 0 (nI k) 0 σ = fX1_standBy_L (nI n) N 1 0 0 σ' ∧ (∀ o, o < la → WaitsC σ' o) ∧ KeepS σ σ'
  | 0, k, σ, e, h7, h => by
    have : k = la := by omega
    subst this
    rw [show N + 1 + 0 = N + 1 by omega, sb0, h7, if_pos (nI_le (Nat.le_refl _) (by omega))]
    exact ⟨σ, rfl, h, KeepS.rf σ⟩
  | j + 1, k, σ, e, h7, h => by
    rw [show N + 1 + (j + 1) = (N + 1 + j) + 1 by omega, sb0, h7, if_neg (nI_ge (by omega) (by omega))]
    obtain ⟨σ1, a1, a2, a3, a4, a5, a6⟩ := fX1_startMonths_is (σ := σ) (show k < 6 by omega)
    rw [a1, qcall_s]
    simp only [qlet, nI_1]
    have k5 := a6.1 5 (by omega) (by omega) (by omega) (by omega)
    obtain ⟨σ2, b1, b2, b3⟩ := run0C (n := n) (N := N) hla j (k + 1) σ1 (by omega) (by rw [a6.1 2 (by omega) (by omega) (by omega) (by omega)]; exact h7) (fun o ho => by
      by_cases q : o = k
      · subst q
        exact ⟨a2, by rw [k5]; exact a3, a4, a5⟩
      · obtain ⟨w1, w2, w3, w4⟩ := h o (by omega)
        unfold WaitsC
        rw [a6.2.1 o q, a6.1 (38 + o) (by omega) (by omega) (by omega) (by omega), a6.1 (45 + o) (by omega) (by omega) (by omega) (by omega), k5]
        exact ⟨w1, w2, w3, w4⟩)
    exact ⟨σ2, b1, b2, (a6.s (by omega)).trans b3⟩
theorem run0M {n N : Nat} : ∀ (j k : Nat) (μ : St), j + k = 6 → (∀ o, o < k → μ.1 32 o = 0) → ∃ μ', fX6_goes_L (nI n) (N + 1 + j) 0 (nI k) 0 μ = fX6_goes_L (nI n) N 1 0 0 μ' ∧ (∀ o, o < 6 → μ'.1 32 o = 0) ∧ KeepG μ μ'
  | 0, k, μ, e, h => by
    have : k = 6 := by omega
    subst this
    rw [show N + 1 + 0 = N + 1 by omega, go0, if_pos (by decide)]
    exact ⟨μ, rfl, h, KeepG.rf μ⟩
  | j + 1, k, μ, e, h => by
    rw [show N + 1 + (j + 1) = (N + 1 + j) + 1 by omega, go0, if_neg (show ¬ (6 : Int32) ≤ nI k from nI_ge (a := k) (b := 6) (by omega) (by omega)), qix_nI (show k < 6 by omega) (by omega), nI_clamp (by omega)]
    simp only [qlet, nI_1]
    obtain ⟨μ2, b1, b2, b3⟩ := run0M (n := n) (N := N) j (k + 1) (sI μ 32 k 0) (by omega) (fun o ho => by
      rw [sI_s]
      by_cases q : o = k
      · rw [q, upd_s]
      · rw [upd_n _ _ q]
        exact h o (by omega))
    have kg : KeepG μ (sI μ 32 k 0) := ⟨fun i hi => sI_n _ _ _ _ (by omega), rfl⟩
    exact ⟨μ2, b1, b2, kg.trans b3⟩
theorem stand_gen {σ μ : St} {mo la wn fn n : Nat} (I : SimI σ μ mo la wn fn n) (hn : n ≤ fn) (N : Nat) (hN : 5000 ≤ N) : ∃ σ' μ', fX1_standBy_L (nI n) N 0 0 0 σ = some (0, σ') ∧ fX6_goes_L (nI n) N 0 0 0 μ = some (0, μ') ∧ (∀ o, o < la → LandR σ' μ' o 400) ∧ KeepS σ σ' ∧ KeepG μ μ' ∧ σ'.1 36 9 = nI n := by
  have hla := I.1.2.1
  have h7 := I.1.2.2.2.2.1
  have hm : 400 * (la + 2) ≤ 3200 := Nat.le_trans (Nat.mul_le_mul_left 400 (show la + 2 ≤ 8 by omega)) (by omega)
  obtain ⟨σ1, a1, a2, a3⟩ := run0C (n := n) (N := N - 1 - la) hla la 0 σ (by omega) h7 (fun o ho => absurd ho (by omega))
  obtain ⟨μ1, b1, b2, b3⟩ := run0M (n := n) (N := N - 7) 6 0 μ (by omega) (fun o ho => absurd ho (by omega))
  rw [show N - 1 - la + 1 + la = N by omega, nI_0] at a1
  rw [show N - 7 + 1 + 6 = N by omega, nI_0] at b1
  have I1 := I.keep a3 b3
  have L1 : ∀ o, o < la → LandR σ1 μ1 o 0 := fun o ho => by
    obtain ⟨w1, w2, w3, w4⟩ := a2 o ho
    obtain ⟨-, -, -, q5, fe, hfe, q24⟩ := I1.1.2.2.2.2.2.2.2.1 o ho
    exact ⟨fe, hfe, q24, Or.inl ⟨by omega, b2 o (by omega), w1, by rw [w2, q5, q24], w3, w4⟩⟩
  obtain ⟨σ2, μ2, c1, c2, c3, c4, c5, c6⟩ := run1 hn 400 0 (N - 1 - la - 1 - 400 * (la + 2)) (N - 7 - 1 - 400 * (la + 2)) σ1 μ1 (by omega) I1 L1
  rw [show N - 1 - la - 1 - 400 * (la + 2) + 1 + 400 * (la + 2) = N - 1 - la by omega, nI_0] at c1
  rw [show N - 7 - 1 - 400 * (la + 2) + 1 + 400 * (la + 2) = N - 7 by omega, nI_0] at c2
  exact ⟨σ2, μ2, a1.trans c1, b1.trans c2, c3, a3.trans c4, b3.trans c5, c6⟩
theorem fX6_goes_e (μ : St) (a : Int32) (h : ¬ μ.1 0 49 = a) : fX6_goes μ a = fX6_goes_L a 100000 0 0 0 (sI μ 0 49 a) := by
  unfold fX6_goes
  rw [if_neg h, qlet_e]
/-- both stand by n: all lands' months agree -/
theorem stand_R {σ μ : St} {mo la wn fn n : Nat} (W : InvW σ μ mo la) (F : InvF σ μ la wn fn) (X : ∀ l, l < la → RuleR σ μ l) (hn : n ≤ fn) (hJ : ∀ k, σ.1 21 8 = nI k → k ≤ fn → Judged σ μ mo k) (hS : σ.1 36 9 = μ.1 0 49) (hM : ∀ k, σ.1 36 9 = nI k → k ≤ fn → ∀ l, l < la → LandR σ μ l 400) : ∃ σ' μ', fX1_standBy σ (nI n) = some (0, σ') ∧ fX6_goes μ (nI n) = some (0, μ') ∧ Judged σ' μ' mo n ∧ σ'.1 36 9 = nI n ∧ μ'.1 0 49 = nI n ∧ (∀ l, l < la → LandR σ' μ' l 400) ∧ (∀ i, i < 21 ∨ (22 ≤ i ∧ i < 32) ∨ (33 ≤ i ∧ i < 36) ∨ i = 60 ∨ (61 ≤ i ∧ i ≤ 95 ∧ (i - 61) % 5 ≠ 4) → σ'.1 i = σ.1 i) ∧ (∀ i, i ≠ 8 → σ'.1 21 i = σ.1 21 i) ∧ σ'.2 = σ.2 ∧ (∀ i, 1 ≤ i → i < 32 ∨ 40 < i → μ'.1 i = μ.1 i) ∧ (∀ i, i ≠ 49 → μ'.1 0 i = μ.1 0 i) ∧ μ'.2 = μ.2 := by
  obtain ⟨σ1, a1, a2, a3, a4, a5⟩ := fX0_judge_is W F hn hJ
  unfold fX1_standBy
  rw [a1, qcall_s, a3 36 (by omega) (by omega)]
  by_cases q : σ.1 36 9 = nI n
  · rw [if_pos q]
    have q2 : μ.1 0 49 = nI n := by rw [← hS]; exact q
    refine ⟨σ1, μ, rfl, ?_, a2, by rw [a3 36 (by omega) (by omega)]; exact q, q2, fun l hl => (hM n q hn l hl).congr (fun i hi => a3 i (by have := W.2.1; omega) (by omega)) (fun _ _ => rfl), fun i hi => a3 i (by omega) (by omega), a4, a5, fun _ _ _ => rfl, fun _ _ => rfl, rfl⟩
    unfold fX6_goes
    rw [if_pos q2]
  · rw [if_neg q]
    have q2 : ¬ μ.1 0 49 = nI n := by rw [← hS]; exact q
    rw [fX6_goes_e μ _ q2]
    have g0 : ∀ i, 1 ≤ i → (sI μ 0 49 (nI n)).1 i = μ.1 i := fun i hi => sI_n _ _ _ _ (by omega)
    have g1 : ∀ i, i ≠ 49 → (sI μ 0 49 (nI n)).1 0 i = μ.1 0 i := fun i hi => by rw [sI_s, upd_n _ _ hi]
    have I1 : SimI σ1 (sI μ 0 49 (nI n)) mo la wn fn n := by
      refine ⟨(W.congr (fun i h1 h2 => a3 i (by omega) (by omega))).congrM (fun i h1 h2 => g0 i (by omega)) (g1 35 (by omega)) (g1 37 (by omega)), (F.congr (fun i h1 h2 => a3 i (by omega) (by omega)) (a4 6 (by omega)) (a4 7 (by omega))).congrM (fun i h1 h2 => g0 i (by omega)) (g1 43 (by omega)) (g1 45 (by omega)), a2.congrM (fun i h1 h2 => g0 i (by omega)), fun l hl => (X l hl).mono ⟨fun i h1 h2 h3 => a3 i (by omega) (by omega), by rw [a5]⟩ (fun i h1 h2 => g0 i (by omega))⟩
    obtain ⟨σ2, μ2, c1, c2, c3, c4, c5, c6⟩ := stand_gen I1 hn 100000 (by omega)
    refine ⟨σ2, μ2, c1, c2, ?_, c6, ?_, c3, fun i hi => ?_, fun i hi => ?_, c4.2.trans a5, fun i h1 hi => ?_, fun i hi => ?_, c5.2⟩
    · exact ((a2.congr (by rw [c4.1 21 (by omega)]) (c4.1 32 (by omega))).congrM (μ' := sI μ 0 49 (nI n)) (fun i h1 h2 => g0 i (by omega))).congrM c5.mid
    · rw [c5.1 0 (by omega), sI_s, upd_s]
    · rw [c4.1 i (by omega), a3 i (by omega) (by omega)]
    · rw [c4.1 21 (by omega), a4 i hi]
    · rw [c5.1 i hi, g0 i h1]
    · rw [c5.1 0 (by omega), g1 i hi]
