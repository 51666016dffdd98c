-- ===== facts: clouds, verdicts, worth, what is heard =====
def isCl (μ : St) (l d k : Nat) : Prop := μ.1 29 k = 1 ∧ μ.1 30 k = nI l ∧ μ.1 31 k = nI d
def cloudB (μ : St) (l d : Nat) : Nat → Prop
  | 0 => False
  | n + 1 => cloudB μ l d n ∨ isCl μ l d n
noncomputable def firstC (μ : St) (l d : Nat) : Nat → Nat
  | 0 => 0
  | n + 1 => if firstC μ l d n = 0 then (by classical exact if isCl μ l d n then n + 1 else 0) else firstC μ l d n
theorem firstC_le (μ : St) (l d : Nat) : ∀ n, firstC μ l d n ≤ n
  | 0 => Nat.le_refl 0
  | n + 1 => by
    have ih := firstC_le μ l d n
    rw [firstC]
    split
    · split <;> omega
    · omega
theorem firstC_iff (μ : St) (l d m : Nat) : ∀ n, n ≤ m → ((firstC μ l d m ≠ 0 ∧ firstC μ l d m ≤ n) ↔ cloudB μ l d n) := by
  induction m with
  | zero =>
    intro n hn
    have : n = 0 := by omega
    subst this
    exact ⟨fun h => absurd rfl h.1, fun h => h.elim⟩
  | succ m ih =>
    intro n hn
    have hle := firstC_le μ l d m
    have hle2 := firstC_le μ l d (m + 1)
    rcases Nat.lt_or_ge m n with q | q
    · have en : n = m + 1 := by omega
      subst en
      have i2 := ih m (Nat.le_refl m)
      rw [cloudB, ← i2]
      rw [firstC]
      by_cases h0 : firstC μ l d m = 0
      · rw [if_pos h0]
        by_cases hc : isCl μ l d m
        · rw [if_pos hc]
          exact ⟨fun _ => Or.inr hc, fun _ => ⟨by omega, by omega⟩⟩
        · rw [if_neg hc]
          exact ⟨fun h => absurd rfl h.1, fun h => h.elim (fun h => absurd h0 h.1) (fun h => absurd h hc)⟩
      · rw [if_neg h0]
        exact ⟨fun _ => Or.inl ⟨h0, hle⟩, fun _ => ⟨h0, by omega⟩⟩
    · rw [← ih n q, firstC]
      by_cases h0 : firstC μ l d m = 0
      · rw [if_pos h0, h0]
        by_cases hc : isCl μ l d m
        · rw [if_pos hc]
          exact ⟨fun h => absurd h.2 (by omega), fun h => absurd rfl h.1⟩
        · rw [if_neg hc]
      · rw [if_neg h0]
def InvF (σ μ : St) (la wn fn : Nat) : Prop :=
  wn ≤ 12 ∧ fn ≤ 300 ∧ σ.1 21 6 = nI wn ∧ μ.1 0 43 = nI wn ∧ σ.1 21 7 = nI fn ∧ μ.1 0 45 = nI fn ∧
  (∀ w, w < wn → σ.1 30 w = μ.1 28 w ∧ ∃ h, h < la ∧ μ.1 28 w = nI h) ∧
  (∀ k, k < fn → σ.1 22 k = μ.1 31 k ∧ (∃ e, e < 400 ∧ μ.1 31 k = nI e) ∧ ((μ.1 29 k = 0 ∧ σ.1 31 k = μ.1 30 k ∧ ∃ w, w < wn ∧ μ.1 30 k = nI w) ∨ (μ.1 29 k = 1 ∧ σ.1 31 k = -1 ∧ ∃ l, l < la ∧ μ.1 30 k = nI l))) ∧
  (∀ l d, l < 6 → d < 400 → σ.1 (24 + l) d = nI (firstC μ l d fn))
theorem fX6_hasCloud_run {μ : St} {l d fn n : Nat} (hn : n ≤ fn) (hfn : fn ≤ 300) (hz : ∀ k, k < fn → μ.1 29 k = 0 ∨ μ.1 29 k = 1) : ∀ (j k m : Nat), j + k = n → j < m → ¬ cloudB μ l d k → fX6_hasCloud_L (nI l) (nI d) (nI n) m (nI k) μ = some ((by classical exact if cloudB μ l d n then 1 else 0), μ)
  | 0, k, m + 1, e, _, hc => by
    have ek : k = n := by omega
    subst ek
    rw [fX6_hasCloud_L, if_pos (nI_le (Nat.le_refl _) (by omega)), if_neg hc]
    rfl
  | j + 1, k, m + 1, e, hm, hc => by
    have hmono : ∀ a b : Nat, cloudB μ l d a → cloudB μ l d (a + b) := fun a b h => by
      induction b with
      | zero => exact h
      | succ b ih => exact Or.inl ih
    rw [fX6_hasCloud_L, if_neg (nI_ge (by omega) (by omega))]
    simp only [qix_nI (show k < 300 by omega) (show 300 ≤ 2 ^ 31 by omega), nI_clamp (show k < 2 ^ 31 by omega), qlet, nI_1]
    by_cases hk : isCl μ l d k
    · rw [if_neg (by rw [hk.1]; decide), if_pos hk.2.1, if_pos hk.2.2]
      have hh : cloudB μ l d n := by
        have := hmono (k + 1) j (Or.inr hk)
        rw [show k + 1 + j = n by omega] at this
        exact this
      rw [if_pos hh]
      rfl
    · have ih := fX6_hasCloud_run hn hfn hz j (k + 1) m (by omega) (by omega) (fun h => h.elim hc hk)
      rcases hz k (by omega) with h0 | h1
      · rw [if_pos h0]
        exact ih
      · rw [if_neg (by rw [h1]; decide)]
        by_cases q1 : μ.1 30 k = nI l
        · rw [if_pos q1]
          by_cases q2 : μ.1 31 k = nI d
          · exact absurd ⟨h1, q1, q2⟩ hk
          · rw [if_neg q2]
            exact ih
        · rw [if_neg q1]
          exact ih
theorem fX6_hasCloud_is {μ : St} {l d fn n : Nat} (hn : n ≤ fn) (hfn : fn ≤ 300) (hz : ∀ k, k < fn → μ.1 29 k = 0 ∨ μ.1 29 k = 1) : fX6_hasCloud μ (nI l) (nI d) (nI n) = some ((by classical exact if cloudB μ l d n then 1 else 0), μ) :=
  fX6_hasCloud_run hn hfn hz n 0 100000 (by omega) (by omega) (fun h => h)
theorem fX0_isCloudy_is {σ μ : St} {l d fn n : Nat} (hl : l < 6) (hd : d < 400) (hc : σ.1 (24 + l) d = nI (firstC μ l d fn)) (hn : n ≤ fn) (hfn : fn ≤ 300) : fX0_isCloudy σ (nI l) (nI d) (nI n) = some ((by classical exact if cloudB μ l d n then 1 else 0), σ) := by
  have hi := firstC_iff μ l d fn n hn
  have hle := firstC_le μ l d fn
  unfold fX0_isCloudy
  simp only [qix_nI hl (show 6 ≤ 2 ^ 31 by omega), qix_nI hd (show 400 ≤ 2 ^ 31 by omega), nI_clamp (show l < 2 ^ 31 by omega), nI_clamp (show d < 2 ^ 31 by omega), qlet, hc]
  by_cases h0 : firstC μ l d fn = 0
  · rw [h0, if_pos nI_0, if_neg (fun q => (hi.mpr q).1 h0)]
    rfl
  · rw [if_neg (nI_ne0 (by omega) (by omega))]
    by_cases h1 : firstC μ l d fn ≤ n
    · rw [if_neg (nI_nlt h1 (by omega)), if_pos (hi.mp ⟨h0, h1⟩)]
      rfl
    · rw [if_pos (nI_lt (by omega) (by omega)), if_neg (fun q => h1 (hi.mpr q).2)]
      rfl
/-- the verdict on report k, as known by n -/
noncomputable def verdL (μ : St) (mo h : Nat) (d : Int32) (e n : Nat) : Int32 := by
  classical exact if lightS μ mo h d = 0 then 0 else if lightS μ mo h d = 2 ∧ ¬ cloudB μ h e n then 2 else 1
noncomputable def verdS (μ : St) (mo k n : Nat) : Int32 := verdL μ mo (μ.1 28 (μ.1 30 k).toNatClampNeg).toNatClampNeg (μ.1 31 k) (μ.1 31 k).toNatClampNeg n
theorem InvF.zo {σ μ : St} {la wn fn : Nat} (F : InvF σ μ la wn fn) : ∀ k, k < fn → μ.1 29 k = 0 ∨ μ.1 29 k = 1 := fun k hk => by
  obtain ⟨-, -, -, -, -, -, -, h, -⟩ := F
  rcases (h k hk).2.2 with q | q
  · exact Or.inl q.1
  · exact Or.inr q.1
theorem fX6_verdictOf_is {σ μ : St} {mo la wn fn k n : Nat} (W : InvW σ μ mo la) (F : InvF σ μ la wn fn) (hk : k < n) (hn : n ≤ fn) (hr : μ.1 29 k = 0) : fX6_verdictOf μ (nI k) (nI n) = some (verdS μ mo k n, μ) := by
  have hz := F.zo
  have hla := W.2.1
  obtain ⟨f1, f2, f3, f4, f5, f6, f7, f8, f9⟩ := F
  obtain ⟨g1, ⟨e, he, g2⟩, g3⟩ := f8 k (by omega)
  obtain ⟨-, g4, w, hw, g5⟩ := g3.resolve_right (fun q => by rw [hr] at q; exact absurd q.1 (by decide))
  obtain ⟨-, h, hh, g6⟩ := f7 w hw
  have hv : verdS μ mo k n = verdL μ mo h (nI e) e n := by
    unfold verdS
    rw [g5, nI_clamp (by omega), g6, nI_clamp (by omega), g2, nI_clamp (by omega)]
  rw [hv]
  unfold fX6_verdictOf verdL
  simp only [qix_nI (show k < 300 by omega) (show 300 ≤ 2 ^ 31 by omega), nI_clamp (show k < 2 ^ 31 by omega), g5, g2, g6, nI_clamp (show w < 2 ^ 31 by omega), nI_clamp (show h < 2 ^ 31 by omega), nI_clamp (show e < 2 ^ 31 by omega), qix_nI (show w < 12 by omega) (show 12 ≤ 2 ^ 31 by omega), qlet]
  rw [fX6_lightOf_is W hh he, qcall_s]
  by_cases h0 : lightS μ mo h (nI e) = 0
  · rw [if_pos h0, if_pos h0]
  · rw [if_neg h0, if_neg h0]
    by_cases h2 : lightS μ mo h (nI e) = 2
    · rw [if_pos h2, g2, fX6_hasCloud_is hn f2 hz, qcall_s]
      by_cases hc : cloudB μ h e n
      · rw [if_pos hc, if_neg (by decide), if_neg (fun q => q.2 hc)]
      · rw [if_neg hc, if_pos rfl, if_pos ⟨h2, hc⟩]
    · rw [if_neg h2, if_neg (fun q => h2 q.1)]
theorem fX0_verdictOn_is {σ μ : St} {mo la wn fn k n : Nat} (W : InvW σ μ mo la) (F : InvF σ μ la wn fn) (hk : k < n) (hn : n ≤ fn) (hr : μ.1 29 k = 0) : fX0_verdictOn σ (nI k) (nI n) = some (verdS μ mo k n, σ) := by
  have hla := W.2.1
  obtain ⟨f1, f2, f3, f4, f5, f6, f7, f8, f9⟩ := F
  obtain ⟨g1, ⟨e, he, g2⟩, g3⟩ := f8 k (by omega)
  obtain ⟨-, g4, w, hw, g5⟩ := g3.resolve_right (fun q => by rw [hr] at q; exact absurd q.1 (by decide))
  obtain ⟨g7, h, hh, g6⟩ := f7 w hw
  have hv : verdS μ mo k n = verdL μ mo h (nI e) e n := by
    unfold verdS
    rw [g5, nI_clamp (by omega), g6, nI_clamp (by omega), g2, nI_clamp (by omega)]
  rw [hv]
  unfold fX0_verdictOn verdL
  simp only [qix_nI (show k < 300 by omega) (show 300 ≤ 2 ^ 31 by omega), nI_clamp (show k < 2 ^ 31 by omega), g4, g1, g7, g5, g2, g6, nI_clamp (show w < 2 ^ 31 by omega), nI_clamp (show h < 2 ^ 31 by omega), nI_clamp (show e < 2 ^ 31 by omega), qix_nI (show w < 12 by omega) (show 12 ≤ 2 ^ 31 by omega), qlet]
  rw [fX4_lightOn_is W hh he, qcall_s]
  by_cases h0 : lightS μ mo h (nI e) = 0
  · rw [if_pos h0, if_pos h0]
  · rw [if_neg h0, if_neg h0]
    by_cases h2 : lightS μ mo h (nI e) = 2
    · rw [if_pos h2, fX0_isCloudy_is (by omega) he (f9 h e (by omega) he) hn f2, qcall_s]
      by_cases hc : cloudB μ h e n
      · rw [if_pos hc, if_neg (by decide), if_pos trivial, if_neg (fun q => q.2 hc)]
      · rw [if_neg hc, if_pos rfl, if_neg (by decide), if_pos ⟨h2, hc⟩]
    · rw [if_neg h2, if_pos trivial, if_neg (fun q => h2 q.1)]
