-- ===== news, what is heard =====
theorem never_late {d e : Nat} (hd : d < 400) (he : e < 400) : nI d < nI e + 1000000 := by
  rw [show (1000000 : Int32) = nI 1000000 from rfl, nI_add]
  exact nI_lt (by omega) (by omega)
/-- news from land f is in land t, of evening e, by evening d -/
def newsS (μ : St) (f t : Nat) (e d : Int32) : Prop := ¬ μ.1 27 (6 * f + t) = -1 ∧ ¬ d < e + μ.1 27 (6 * f + t)
theorem fX4_isNewsThere_is {σ μ : St} {mo la f t d e : Nat} (W : InvW σ μ mo la) (hf : f < 6) (ht : t < 6) (hd : d < 400) (he : e < 400) : fX4_isNewsThere σ (nI f) (nI t) (nI e) (nI d) = some ((by classical exact if newsS μ f t (nI e) (nI d) then 1 else 0), σ) := by
  obtain ⟨h1, h2, h3, h4, h5, h6, h7, h8, h9, h10, h11⟩ := W
  unfold fX4_isNewsThere
  simp only [qix_nI hf (show 6 ≤ 2 ^ 31 by omega), qix_nI ht (show 6 ≤ 2 ^ 31 by omega), nI_clamp (show f < 2 ^ 31 by omega), nI_clamp (show t < 2 ^ 31 by omega), qlet]
  rcases h11 f t hf ht with ⟨e1, e2⟩ | ⟨n, hn, e1, e2⟩
  · rw [e1, if_pos (never_late hd he), if_neg (fun q => q.1 e2)]
    rfl
  · rw [e1]
    by_cases q : nI d < nI e + nI n
    · rw [if_pos q, if_neg (fun z => z.2 (by rw [e2]; exact q))]
      rfl
    · rw [if_neg q, if_pos ⟨by rw [e2]; exact nI_neg1 (by omega), by rw [e2]; exact q⟩]
      rfl
noncomputable def hearS (μ : St) (mo l : Nat) (d e : Int32) (n k : Nat) : Prop := μ.1 29 k = 0 ∧ μ.1 31 k = e ∧ newsS μ (μ.1 28 (μ.1 30 k).toNatClampNeg).toNatClampNeg l e d ∧ ¬ verdS μ mo k n = 0
theorem fX6_isHeard_is {σ μ : St} {mo la wn fn n k l : Nat} {d e : Int32} (W : InvW σ μ mo la) (F : InvF σ μ la wn fn) (hn : n ≤ fn) (hk : k < n) (hl : l < 6) : fX6_isHeard μ (nI k) (nI l) d e (nI n) = some ((by classical exact if hearS μ mo l d e n k then 1 else 0), μ) := by
  have hfn := F.2.1
  have hla := W.2.1
  obtain ⟨f1, f2, f3, f4, f5, f6, f7, f8, f9⟩ := id F
  unfold fX6_isHeard
  simp only [qix_nI (show k < 300 by omega) (show 300 ≤ 2 ^ 31 by omega), nI_clamp (show k < 2 ^ 31 by omega), qlet]
  rcases (f8 k (by omega)).2.2 with ⟨c1, q2, w, hw, q3⟩ | ⟨c1, q2, -⟩
  · rw [if_pos c1]
    by_cases c2 : μ.1 31 k = e
    · obtain ⟨-, h, hh, g6⟩ := f7 w hw
      rw [if_pos c2, q3, qix_nI (by omega) (by omega), nI_clamp (by omega), g6, show (6 : Int32) = nI 6 from rfl, pk_mul, nI_add, qix_nI (by omega) (by omega), nI_clamp (by omega)]
      have hdef : hearS μ mo l d e n k ↔ (newsS μ h l e d ∧ ¬ verdS μ mo k n = 0) := by
        unfold hearS
        rw [q3, nI_clamp (by omega), g6, nI_clamp (by omega)]
        exact ⟨fun q => q.2.2, fun q => ⟨c1, c2, q⟩⟩
      by_cases z1 : μ.1 27 (6 * h + l) = -1
      · rw [if_pos z1, if_neg (fun q => (hdef.mp q).1.1 z1)]
        rfl
      · rw [if_neg z1]
        by_cases z2 : d < e + μ.1 27 (6 * h + l)
        · rw [if_pos z2, if_neg (fun q => (hdef.mp q).1.2 z2)]
          rfl
        · rw [if_neg z2, fX6_verdictOf_is W F hk hn c1, qcall_s]
          by_cases z3 : verdS μ mo k n = 0
          · rw [if_pos z3, if_neg (fun q => (hdef.mp q).2 z3)]
            rfl
          · rw [if_neg z3, if_pos (hdef.mpr ⟨⟨z1, z2⟩, z3⟩)]
            rfl
    · rw [if_neg c2, if_neg (fun q => c2 q.2.1)]
      rfl
  · rw [if_neg (by rw [c1]; decide), if_neg (fun q => by have := q.1; rw [c1] at this; exact absurd this (by decide))]
    rfl
theorem fX0_isHeard_is {σ μ : St} {mo la wn fn n k l d e : Nat} (W : InvW σ μ mo la) (F : InvF σ μ la wn fn) (J : Judged σ μ mo n) (hn : n ≤ fn) (hk : k < n) (hl : l < 6) (hd : d < 400) (he : e < 400) : fX0_isHeard σ (nI k) (nI l) (nI d) (nI e) = some ((by classical exact if hearS μ mo l (nI d) (nI e) n k then 1 else 0), σ) := by
  have hfn := F.2.1
  have hla := W.2.1
  have hj := J.2 k hk
  obtain ⟨f1, f2, f3, f4, f5, f6, f7, f8, f9⟩ := id F
  obtain ⟨g1, -, g2⟩ := f8 k (by omega)
  unfold fX0_isHeard
  simp only [qix_nI (show k < 300 by omega) (show 300 ≤ 2 ^ 31 by omega), nI_clamp (show k < 2 ^ 31 by omega), qlet, g1, hj]
  by_cases c2 : μ.1 31 k = nI e
  · rw [if_pos c2]
    rcases g2 with ⟨c1, q2, w, hw, q3⟩ | ⟨c1, q2, -⟩
    · obtain ⟨g7, h, hh, g6⟩ := f7 w hw
      have hdef : hearS μ mo l (nI d) (nI e) n k ↔ (newsS μ h l (nI e) (nI d) ∧ ¬ verdS μ mo k n = 0) := by
        unfold hearS
        rw [q3, nI_clamp (by omega), g6, nI_clamp (by omega)]
        exact ⟨fun q => q.2.2, fun q => ⟨c1, c2, q⟩⟩
      unfold judS
      rw [q2, q3, if_neg (nI_neg1 (by omega)), if_pos c1]
      by_cases z3 : verdS μ mo k n = 0
      · rw [if_pos z3, if_neg (fun q => (hdef.mp q).2 z3)]
        rfl
      · rw [if_neg z3, qix_nI (by omega) (by omega), nI_clamp (by omega), g7, g6, fX4_isNewsThere_is W (by omega) hl hd he, qcall_s]
        by_cases z : newsS μ h l (nI e) (nI d)
        · rw [if_pos z, if_neg (by decide), if_pos (hdef.mpr ⟨z, z3⟩)]
          rfl
        · rw [if_neg z, if_pos rfl, if_neg (fun q => z (hdef.mp q).1)]
          rfl
    · rw [q2, if_pos rfl, if_neg (fun q => by have := q.1; rw [c1] at this; exact absurd this (by decide))]
      rfl
  · rw [if_neg c2, if_neg (fun q => c2 q.2.1)]
    rfl
