-- ===== what stays when other cells change =====
theorem InvW.congr {σ σ' μ : St} {mo la : Nat} (W : InvW σ μ mo la) (h : ∀ i, 2 ≤ i → i ≤ 20 → σ'.1 i = σ.1 i) : InvW σ' μ mo la := by
  obtain ⟨h1, h2, h3, h4, h5, h6, h7, h8, h9, h10, h11⟩ := W
  refine ⟨h1, h2, by rw [h 2 (by omega) (by omega)]; exact h3, h4, by rw [h 2 (by omega) (by omega)]; exact h5, h6, fun k hk => ?_, fun l hl => ?_, fun l hl => ?_, fun l i hl hi => ?_, fun f t hf ht => ?_⟩
  · rw [h 3 (by omega) (by omega)]; exact h7 k hk
  · rw [h 4 (by omega) (by omega), h 5 (by omega) (by omega)]; exact h8 l hl
  · rw [h 13 (by omega) (by omega)]; exact h9 l hl
  · rw [h (7 + l) (by omega) (by omega)]; exact h10 l i hl hi
  · rw [h (15 + f) (by omega) (by omega)]; exact h11 f t hf ht
theorem InvW.congrM {σ μ μ' : St} {mo la : Nat} (W : InvW σ μ mo la) (h : ∀ i, 22 ≤ i → i ≤ 27 → μ'.1 i = μ.1 i) (g1 : μ'.1 0 35 = μ.1 0 35) (g2 : μ'.1 0 37 = μ.1 0 37) : InvW σ μ' mo la := by
  obtain ⟨h1, h2, h3, h4, h5, h6, h7, h8, h9, h10, h11⟩ := W
  refine ⟨h1, h2, h3, by rw [g1]; exact h4, h5, by rw [g2]; exact h6, fun k hk => ?_, fun l hl => ?_, fun l hl => ?_, fun l i hl hi => ?_, fun f t hf ht => ?_⟩
  · rw [h 22 (by omega) (by omega)]; exact h7 k hk
  · rw [h 23 (by omega) (by omega), h 24 (by omega) (by omega)]; exact h8 l hl
  · rw [h 25 (by omega) (by omega)]; exact h9 l hl
  · rw [h 26 (by omega) (by omega)]; exact h10 l i hl hi
  · rw [h 27 (by omega) (by omega)]; exact h11 f t hf ht
theorem isCl_congr {μ μ' : St} (h : ∀ i, 22 ≤ i → i ≤ 31 → μ'.1 i = μ.1 i) (l d k : Nat) : isCl μ' l d k ↔ isCl μ l d k := by
  unfold isCl
  rw [h 29 (by omega) (by omega), h 30 (by omega) (by omega), h 31 (by omega) (by omega)]
theorem cloudB_congr {μ μ' : St} (h : ∀ i, 22 ≤ i → i ≤ 31 → μ'.1 i = μ.1 i) (l d : Nat) : ∀ n, cloudB μ' l d n = cloudB μ l d n
  | 0 => rfl
  | n + 1 => by rw [cloudB, cloudB, cloudB_congr h l d n, propext (isCl_congr h l d n)]
theorem firstC_congr {μ μ' : St} (h : ∀ i, 22 ≤ i → i ≤ 31 → μ'.1 i = μ.1 i) (l d : Nat) : ∀ n, firstC μ' l d n = firstC μ l d n
  | 0 => rfl
  | n + 1 => by
    rw [firstC, firstC, firstC_congr h l d n]
    by_cases q : isCl μ l d n
    · rw [if_pos q, if_pos ((isCl_congr h l d n).mpr q)]
    · rw [if_neg q, if_neg (fun z => q ((isCl_congr h l d n).mp z))]
theorem lightS_congr {μ μ' : St} (h : ∀ i, 22 ≤ i → i ≤ 31 → μ'.1 i = μ.1 i) (mo l : Nat) (d : Int32) : lightS μ' mo l d = lightS μ mo l d := by
  unfold lightS
  rw [h 22 (by omega) (by omega), h 23 (by omega) (by omega), h 25 (by omega) (by omega), h 26 (by omega) (by omega)]
theorem verdS_congr {μ μ' : St} (h : ∀ i, 22 ≤ i → i ≤ 31 → μ'.1 i = μ.1 i) (mo k n : Nat) : verdS μ' mo k n = verdS μ mo k n := by
  unfold verdS verdL
  rw [h 28 (by omega) (by omega), h 30 (by omega) (by omega), h 31 (by omega) (by omega), lightS_congr h, cloudB_congr h]
theorem InvF.congr {σ σ' μ : St} {la wn fn : Nat} (F : InvF σ μ la wn fn) (h : ∀ i, 22 ≤ i → i ≤ 31 → σ'.1 i = σ.1 i) (g6 : σ'.1 21 6 = σ.1 21 6) (g7 : σ'.1 21 7 = σ.1 21 7) : InvF σ' μ la wn fn := by
  obtain ⟨f1, f2, f3, f4, f5, f6, f7, f8, f9⟩ := F
  refine ⟨f1, f2, by rw [g6]; exact f3, f4, by rw [g7]; exact f5, f6, fun w hw => ?_, fun k hk => ?_, fun l d hl hd => ?_⟩
  · rw [h 30 (by omega) (by omega)]; exact f7 w hw
  · rw [h 22 (by omega) (by omega), h 31 (by omega) (by omega)]; exact f8 k hk
  · rw [h (24 + l) (by omega) (by omega)]; exact f9 l d hl hd
theorem InvF.congrM {σ μ μ' : St} {la wn fn : Nat} (F : InvF σ μ la wn fn) (h : ∀ i, 22 ≤ i → i ≤ 31 → μ'.1 i = μ.1 i) (g1 : μ'.1 0 43 = μ.1 0 43) (g2 : μ'.1 0 45 = μ.1 0 45) : InvF σ μ' la wn fn := by
  obtain ⟨f1, f2, f3, f4, f5, f6, f7, f8, f9⟩ := F
  refine ⟨f1, f2, f3, by rw [g1]; exact f4, f5, by rw [g2]; exact f6, fun w hw => ?_, fun k hk => ?_, fun l d hl hd => ?_⟩
  · rw [h 28 (by omega) (by omega)]; exact f7 w hw
  · rw [h 29 (by omega) (by omega), h 30 (by omega) (by omega), h 31 (by omega) (by omega)]; exact f8 k hk
  · rw [firstC_congr h]; exact f9 l d hl hd
-- ===== the verdicts that the class keeps =====
noncomputable def judS (μ : St) (mo n k : Nat) : Int32 := if μ.1 29 k = 0 then verdS μ mo k n else -1
def Judged (σ μ : St) (mo n : Nat) : Prop := σ.1 21 8 = nI n ∧ ∀ k, k < n → σ.1 32 k = judS μ mo n k
theorem fX0_judge_run {μ : St} {mo la wn fn n : Nat} (hn : n ≤ fn) : ∀ (j k m : Nat) (σ : St), InvW σ μ mo la → InvF σ μ la wn fn → (∀ i, i < k → σ.1 32 i = judS μ mo n i) → j + k = n → j < m → ∃ σ', fX0_judge_L (nI n) m (nI k) σ = some (0, σ') ∧ Judged σ' μ mo n ∧ (∀ i, i ≠ 32 → i ≠ 21 → σ'.1 i = σ.1 i) ∧ (∀ i, i ≠ 8 → σ'.1 21 i = σ.1 21 i) ∧ σ'.2 = σ.2
  | 0, k, m + 1, σ, W, F, hj, e, _ => by
    have ek : k = n := by omega
    subst ek
    have hfn := F.2.1
    refine ⟨sI σ 21 8 (nI k), ?_, ⟨?_, fun i hi => ?_⟩, fun i h1 h2 => ?_, fun i hi => ?_, rfl⟩
    · rw [fX0_judge_L, if_pos (nI_le (Nat.le_refl _) (by omega))]
      rfl
    · rw [sI_s, upd_s]
    · rw [sI_n _ _ _ _ (by omega)]
      exact hj i hi
    · rw [sI_n _ _ _ _ h2]
    · rw [sI_s, upd_n _ _ hi]
  | j + 1, k, m + 1, σ, W, F, hj, e, hm => by
    have hfn := F.2.1
    have hk : k < fn := by omega
    rw [fX0_judge_L, if_neg (nI_ge (by omega) (by omega))]
    simp only [qix_nI (show k < 300 by omega) (show 300 ≤ 2 ^ 31 by omega), nI_clamp (show k < 2 ^ 31 by omega), qlet, nI_1]
    have key : ∀ v, v = judS μ mo n k → ∃ σ', fX0_judge_L (nI n) m (nI (k + 1)) (sI σ 32 k v) = some (0, σ') ∧ Judged σ' μ mo n ∧ (∀ i, i ≠ 32 → i ≠ 21 → σ'.1 i = σ.1 i) ∧ (∀ i, i ≠ 8 → σ'.1 21 i = σ.1 21 i) ∧ σ'.2 = σ.2 := fun v hv => by
      obtain ⟨σ', a1, a2, a3, a4, a5⟩ := fX0_judge_run hn j (k + 1) m (sI σ 32 k v) (W.congr (fun i h1 h2 => sI_n _ _ _ _ (by omega))) (F.congr (fun i h1 h2 => sI_n _ _ _ _ (by omega)) (by rw [sI_n _ _ _ _ (by omega)]) (by rw [sI_n _ _ _ _ (by omega)])) (fun i hi => by
        rw [sI_s]
        by_cases q : i = k
        · rw [q, upd_s, hv]
        · rw [upd_n _ _ q]
          exact hj i (by omega)) (by omega) (by omega)
      refine ⟨σ', a1, a2, fun i h1 h2 => ?_, fun i hi => ?_, a5⟩
      · rw [a3 i h1 h2, sI_n _ _ _ _ h1]
      · rw [a4 i hi, sI_n _ _ _ _ (by omega)]
    obtain ⟨f1, f2, f3, f4, f5, f6, f7, f8, f9⟩ := id F
    rcases (f8 k hk).2.2 with ⟨q1, q2, w, hw, q3⟩ | ⟨q1, q2, -⟩
    · rw [q2, q3, if_neg (nI_neg1 (by omega)), fX0_verdictOn_is W F (by omega) hn q1, qcall_s]
      exact key _ (by unfold judS; rw [if_pos q1])
    · rw [q2, if_pos rfl]
      exact key _ (by unfold judS; rw [if_neg (by rw [q1]; decide)])
theorem fX0_judge_is {σ μ : St} {mo la wn fn n : Nat} (W : InvW σ μ mo la) (F : InvF σ μ la wn fn) (hn : n ≤ fn) (hJ : ∀ k, σ.1 21 8 = nI k → k ≤ fn → Judged σ μ mo k) : ∃ σ', fX0_judge σ (nI n) = some (0, σ') ∧ Judged σ' μ mo n ∧ (∀ i, i ≠ 32 → i ≠ 21 → σ'.1 i = σ.1 i) ∧ (∀ i, i ≠ 8 → σ'.1 21 i = σ.1 21 i) ∧ σ'.2 = σ.2 := by
  unfold fX0_judge
  by_cases h : σ.1 21 8 = nI n
  · rw [if_pos h]
    exact ⟨σ, rfl, hJ n h hn, fun _ _ _ => rfl, fun _ _ => rfl, rfl⟩
  · rw [if_neg h]
    exact fX0_judge_run hn n 0 100000 σ W F (fun i hi => absurd hi (by omega)) (by omega) (by have := F.2.1; omega)
-- ===== worth =====
noncomputable def wS (μ : St) (mo w : Nat) (d : Int32) (n : Nat) : Nat → Int32
  | 0 => 2
  | k + 1 => if μ.1 29 k = 0 ∧ μ.1 30 k = nI w ∧ μ.1 31 k < d then (if verdS μ mo k n = 2 then wS μ mo w d n k + 1 else if verdS μ mo k n = 0 then wS μ mo w d n k + -2 else wS μ mo w d n k) else wS μ mo w d n k
noncomputable def worthS (μ : St) (mo w : Nat) (d : Int32) (n : Nat) : Int32 := if 0 ≤ wS μ mo w d n n then wS μ mo w d n n else 0
theorem fX6_worthOf_run {σ μ : St} {mo la wn fn n w : Nat} {d : Int32} (W : InvW σ μ mo la) (F : InvF σ μ la wn fn) (hn : n ≤ fn) : ∀ (j k m : Nat), j + k = n → j < m → fX6_worthOf_L (nI w) d (nI n) m (wS μ mo w d n k) (nI k) μ = some (worthS μ mo w d n, μ)
  | 0, k, m + 1, e, _ => by
    have hfn := F.2.1
    have ek : k = n := by omega
    subst ek
    rw [fX6_worthOf_L, if_pos (nI_le (Nat.le_refl _) (by omega))]
    unfold worthS
    simp only [qlet]
    split <;> rfl
  | j + 1, k, m + 1, e, hm => by
    have hfn := F.2.1
    have ih := fX6_worthOf_run (w := w) (d := d) W F hn j (k + 1) m (by omega) (by omega)
    rw [fX6_worthOf_L, if_neg (nI_ge (by omega) (by omega))]
    simp only [qix_nI (show k < 300 by omega) (show 300 ≤ 2 ^ 31 by omega), nI_clamp (show k < 2 ^ 31 by omega), qlet, nI_1]
    rw [wS] at ih
    by_cases c1 : μ.1 29 k = 0
    · rw [if_pos c1]
      by_cases c2 : μ.1 30 k = nI w
      · rw [if_pos c2]
        by_cases c3 : μ.1 31 k < d
        · rw [if_pos c3, fX6_verdictOf_is W F (by omega) hn c1, qcall_s]
          rw [if_pos ⟨c1, c2, c3⟩] at ih
          by_cases v2 : verdS μ mo k n = 2
          · rw [if_pos v2] at ih ⊢
            exact ih
          · rw [if_neg v2] at ih ⊢
            by_cases v0 : verdS μ mo k n = 0
            · rw [if_pos v0] at ih ⊢
              exact ih
            · rw [if_neg v0] at ih ⊢
              rw [Int32.add_zero]
              exact ih
        · rw [if_neg c3]
          rw [if_neg (fun q => c3 q.2.2)] at ih
          exact ih
      · rw [if_neg c2]
        rw [if_neg (fun q => c2 q.2.1)] at ih
        exact ih
    · rw [if_neg c1]
      rw [if_neg (fun q => c1 q.1)] at ih
      exact ih
theorem fX6_worthOf_is {σ μ : St} {mo la wn fn n w : Nat} {d : Int32} (W : InvW σ μ mo la) (F : InvF σ μ la wn fn) (hn : n ≤ fn) : fX6_worthOf μ (nI w) d (nI n) = some (worthS μ mo w d n, μ) :=
  fX6_worthOf_run W F hn n 0 100000 (by omega) (by have := F.2.1; omega)
theorem fX0_worthOn_run {σ μ : St} {mo la wn fn n w : Nat} {d : Int32} (F : InvF σ μ la wn fn) (hn : n ≤ fn) (J : Judged σ μ mo n) (hw : w < 2 ^ 31) : ∀ (j k m : Nat), j + k = n → j < m → fX0_worthOn_L (nI w) d m (wS μ mo w d n k) (nI k) σ = some (worthS μ mo w d n, σ)
  | 0, k, m + 1, e, _ => by
    have hfn := F.2.1
    have ek : k = n := by omega
    subst ek
    rw [fX0_worthOn_L, J.1, if_pos (nI_le (Nat.le_refl _) (by omega))]
    unfold worthS
    simp only [qlet]
    split <;> rfl
  | j + 1, k, m + 1, e, hm => by
    have hfn := F.2.1
    have ih := fX0_worthOn_run (w := w) (d := d) F hn J hw j (k + 1) m (by omega) (by omega)
    rw [fX0_worthOn_L, J.1, if_neg (nI_ge (by omega) (by omega))]
    have hj := J.2 k (by omega)
    obtain ⟨f1, f2, f3, f4, f5, f6, f7, f8, f9⟩ := id F
    obtain ⟨g1, -, g2⟩ := f8 k (by omega)
    simp only [qix_nI (show k < 300 by omega) (show 300 ≤ 2 ^ 31 by omega), nI_clamp (show k < 2 ^ 31 by omega), qlet, nI_1, g1, hj]
    rw [wS] at ih
    rcases g2 with ⟨c1, q2, w', hw', q3⟩ | ⟨c1, q2, -⟩
    · unfold judS
      rw [if_pos c1, q2]
      by_cases c2 : μ.1 30 k = nI w
      · rw [if_pos c2]
        by_cases c3 : μ.1 31 k < d
        · rw [if_neg (fun q => absurd c3 (Int32.not_lt.mpr q))]
          rw [if_pos ⟨c1, c2, c3⟩] at ih
          by_cases v2 : verdS μ mo k n = 2
          · rw [if_pos v2] at ih ⊢
            exact ih
          · rw [if_neg v2] at ih ⊢
            by_cases v0 : verdS μ mo k n = 0
            · rw [if_pos v0] at ih ⊢
              exact ih
            · rw [if_neg v0] at ih ⊢
              exact ih
        · rw [if_pos (Int32.not_lt.mp c3)]
          rw [if_neg (fun q => c3 q.2.2)] at ih
          exact ih
      · rw [if_neg c2]
        rw [if_neg (fun q => c2 q.2.1)] at ih
        exact ih
    · rw [q2, if_neg (fun q => nI_neg1 hw q.symm)]
      rw [if_neg (fun q => by rw [c1] at q; exact absurd q.1 (by decide))] at ih
      exact ih
theorem fX0_worthOn_is {σ μ : St} {mo la wn fn n w : Nat} {d : Int32} (F : InvF σ μ la wn fn) (hn : n ≤ fn) (J : Judged σ μ mo n) (hw : w < 2 ^ 31) : fX0_worthOn σ (nI w) d = some (worthS μ mo w d n, σ) :=
  fX0_worthOn_run F hn J hw n 0 100000 (by omega) (by have := F.2.1; omega)
