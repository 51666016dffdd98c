-- ===== the rules of a land answer alike: out of its text =====
def hasK (K : Nat → Rule) (s : Nat) : Nat → Nat → Int32
  | 0, _ => 0
  | j + 1, r => if (K r).1 = s then 1 else hasK K s j (r + 1)
theorem hasK_no {K : Nat → Rule} {s : Nat} : ∀ {j r : Nat}, hasK K s j r = 0 → ∀ i, r ≤ i → i < r + j → (K i).1 ≠ s
  | 0, r, _, i, h1, h2 => absurd h2 (by omega)
  | j + 1, r, h, i, h1, h2 => by
    rw [hasK] at h
    by_cases q : (K r).1 = s
    · rw [if_pos q] at h
      exact absurd h (by decide)
    · rw [if_neg q] at h
      by_cases e : i = r
      · rw [e]
        exact q
      · exact hasK_no h i (by omega) (by omega)
theorem hasK_run {σ : St} {t n s : Nat} {K : Nat → Rule} (hK : okK n K) (hs : s < 3) (T : TxC σ t n K) : ∀ (j r m : Nat), r + j = n → j < m → fX3_hasRule_L t (nI s) m (nI r) σ = some (hasK K s j r, σ)
  | 0, r, m + 1, e, _ => by
    have hn := hK.1
    have : r = n := e
    subst this
    rw [fX3_hasRule_L, T.1, if_pos (nI_le (Nat.le_refl _) (by omega))]
    rfl
  | j + 1, r, m + 1, e, hm => by
    have hn := hK.1
    obtain ⟨a1, -⟩ := T.2 r (by omega)
    have k1 := (hK.2 r (by omega)).1
    rw [fX3_hasRule_L, T.1, if_neg (nI_ge (by omega) (by omega)), qix_nI (by omega) (by omega), nI_clamp (by omega), a1, hasK]
    by_cases q : (K r).1 = s
    · rw [if_pos (by rw [q]), if_pos q]
      rfl
    · rw [if_neg (fun h => q ((nI_eq (by omega) (by omega)).mp h)), if_neg q, qlet_e, nI_1]
      exact hasK_run hK hs T j (r + 1) m (by omega) (by omega)
theorem first_run {V : Nat → Int32} {t n s p : Nat} {a1 : Int32} {K : Nat → Rule} (hp : p < 12) (hK : okK n K) (hs : s < 3) : ∀ (j r m m2 : Nat) (σ μ : St), TxC σ t n K → TxM μ p 500 n K → (∀ i, i < 8 → σ.1 59 (6 + i) = V i) → (∀ i, i < 8 → μ.1 38 i = V i) → r + j = n → j < m → j < m2 → ∃ (x : Int32) (σ2 μ2 : St), fX3_firstThatHolds_L t (nI s) m (nI r) σ = some (x, σ2) ∧ fX6_ruleOf_L a1 (nI s) m2 (nI p) (nI r) μ = some (x, μ2) ∧ (∀ i, i ≠ 61 + 5 * t + 4 → σ2.1 i = σ.1 i) ∧ σ2.2 = σ.2 ∧ (∀ i, i ≠ 39 → μ2.1 i = μ.1 i) ∧ μ2.2 = μ.2 ∧ ((∀ i, r ≤ i → i < n → (K i).1 ≠ s) → x = -1) ∧ (x = -1 ∨ ∃ k, k < 12 ∧ x = nI k)
  | 0, r, m + 1, m2 + 1, σ, μ, T, U, _, _, e, _, _ => by
    have hn := hK.1
    have : r = n := e
    subst this
    refine ⟨-1, σ, μ, ?_, ?_, fun _ _ => rfl, rfl, fun _ _ => rfl, rfl, fun _ => rfl, Or.inl rfl⟩
    · rw [fX3_firstThatHolds_L, T.1, if_pos (nI_le (Nat.le_refl _) (by omega))]
    · rw [fX6_ruleOf_L, qix_nI hp (by omega), nI_clamp (by omega), U.1, if_pos (nI_le (Nat.le_refl _) (by omega))]
  | j + 1, r, m + 1, m2 + 1, σ, μ, T, U, hV, hW, e, h1, h2 => by
    have hn := hK.1
    obtain ⟨a1', -⟩ := T.2 r (by omega)
    obtain ⟨b1', -⟩ := U.2 r (by omega)
    have k1 := (hK.2 r (by omega)).1
    have e12 : (12 : Int32) * nI p + nI r = nI (12 * p + r) := by rw [show (12 : Int32) = nI 12 from rfl, pk_mul, nI_add]
    rw [fX3_firstThatHolds_L, fX6_ruleOf_L, T.1, if_neg (nI_ge (by omega) (by omega)), qix_nI (show r < 12 by omega) (by omega), nI_clamp (show r < 2 ^ 31 by omega), a1', qix_nI hp (by omega), nI_clamp (show p < 2 ^ 31 by omega), U.1, if_neg (nI_ge (by omega) (by omega)), e12, qix_nI (show 12 * p + r < 144 by omega) (by omega), nI_clamp (show 12 * p + r < 2 ^ 31 by omega), b1']
    by_cases q : (K r).1 = s
    · obtain ⟨σ', c1, c2, c3⟩ := holdsC_is hK T (show r < n by omega) hV
      obtain ⟨μ', d1, d2, d3⟩ := holdsM_is hp hK U (show r < n by omega) hW
      simp only [qlet_e, if_pos (show nI (K r).1 = nI s by rw [q]), c1, d1, qcall_s]
      cases goS V false (K r).2.reverse
      · rw [show b2 false = 0 from rfl, if_pos rfl, if_pos rfl, nI_1]
        obtain ⟨x, σ2, μ2, z1, z2, z3, z4, z5, z6, z7, z8⟩ := first_run (V := V) (a1 := a1) hp hK hs j (r + 1) m m2 σ' μ' (T.congr (fun i hi => c2 _ (by omega))) (U.congr hn ((MX.pile d2).pg p)) (fun i hi => by rw [c2 59 (by omega)]; exact hV i hi) (fun i hi => by rw [d2 38 (by omega)]; exact hW i hi) (by omega) (by omega) (by omega)
        exact ⟨x, σ2, μ2, z1, z2, fun i hi => (z3 i hi).trans (c2 i hi), z4.trans c3, fun i hi => (z5 i hi).trans (d2 i hi), z6.trans d3, fun h => absurd q (h r (by omega) (by omega)), z8⟩
      · rw [show b2 true = 1 from rfl, if10, if10]
        exact ⟨nI r, σ', μ', rfl, rfl, c2, c3, d2, d3, fun h => absurd q (h r (by omega) (by omega)), Or.inr ⟨r, by omega, rfl⟩⟩
    · have q2 : ¬ nI (K r).1 = nI s := fun h => q ((nI_eq (by omega) (by omega)).mp h)
      simp only [qlet_e, if_neg q2, nI_1]
      obtain ⟨x, σ2, μ2, z1, z2, z3, z4, z5, z6, z7, z8⟩ := first_run (V := V) (a1 := a1) hp hK hs j (r + 1) m m2 σ μ T U hV hW (by omega) (by omega) (by omega)
      exact ⟨x, σ2, μ2, z1, z2, z3, z4, z5, z6, fun h => z7 (fun i g1 g2 => h i (by omega) g2), z8⟩
def TextR (σ μ : St) (l : Nat) : Prop := σ.2.2 l < 7 ∧ ∃ n K v, v ≤ 1 ∧ μ.1 8 l = nI v ∧ okK n K ∧ TxC σ (σ.2.2 l) n K ∧ TxM μ (2 * l + v) 500 n K
theorem TextR.mono {σ σ' μ μ' : St} {l : Nat} (R : TextR σ μ l) (h : TX σ σ') (g : MX μ μ') : TextR σ' μ' l := by
  obtain ⟨r0, n, K, v, r1, r2, r3, r4, r5⟩ := R
  unfold TextR
  rw [h.2]
  exact ⟨r0, n, K, v, r1, by rw [g 8 (by omega) (by omega)]; exact r2, r3, r4.congr (fun i hi => h.1 _ (by omega) (by omega) (by omega)), r5.congr r3.1 (g.pg _)⟩
theorem TextR.rule {σ μ : St} {l : Nat} (hl : l < 6) (R : TextR σ μ l) : RuleR σ μ l := by
  obtain ⟨r0, n, K, v, r1, r2, r3, r4, r5⟩ := R
  have hn := r3.1
  refine ⟨r0, fun s hs => ⟨hasK K s n 0, fun σ1 h => ?_, fun σ1 μ1 h g V => ?_⟩⟩
  · exact hasK_run r3 hs (r4.congr (fun i hi => h.1 _ (by omega) (by omega) (by omega))) n 0 100000 (by omega) (by omega)
  · obtain ⟨x, σ2, μ2, z1, z2, z3, z4, z5, z6, z7, z8⟩ := first_run (V := fun i => μ1.1 38 i) (a1 := nI l) (p := 2 * l + v) (by omega) r3 hs n 0 100000 100000 σ1 μ1 (r4.congr (fun i hi => h.1 _ (by omega) (by omega) (by omega))) (r5.congr r3.1 (g.pg _)) V (fun i _ => rfl) (by omega) (by omega) (by omega)
    refine ⟨x, σ2, μ2, z1, ?_, z3, z4, z5, z6, fun h0 => z7 (fun i _ h2 => hasK_no h0 i (by omega) (by omega)), z8⟩
    unfold fX6_ruleOf
    rw [qix_nI hl (by omega), nI_clamp (by omega), g 8 (by omega) (by omega), r2, qlet_e, show (2 : Int32) = nI 2 from rfl, pk_mul, nI_add]
    exact z2
