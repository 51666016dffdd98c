-- ===== cloud =====
theorem p_cloud {σ μ : St} {mo la wn fn : Nat} (I : Inv σ μ mo la wn fn) (a1 a2 : Int32) : ∃ fn' r σ' μ', fX5_cloud σ a1 a2 = some (r, σ') ∧ fX6_cloud μ a1 a2 = some (r, μ') ∧ Inv σ' μ' mo la wn fn' := by
  obtain ⟨W, F, -⟩ := id I
  have hla := W.2.1
  obtain ⟨f1, f2, f3, f4, f5, f6, f7, f8, f9⟩ := id F
  unfold fX5_cloud fX6_cloud
  simp only [qlet, f5, f6]
  by_cases h1 : fn < 300
  · rw [if_neg (show ¬ (300 : Int32) ≤ nI fn from nI_ge (a := fn) (b := 300) h1 (by omega)), if_neg (show ¬ nI fn = 300 from fun q => absurd ((nI_eq (a := fn) (b := 300) (by omega) (by omega)).mp q) (by omega)), isLandC W.2.2.2.2.1 hla, isLandM W.2.2.2.2.2.1 hla, qcall_s, qcall_s]
    by_cases h2 : inN la a1
    · rw [b01_t h2, if10, if10, evC, evM, qcall_s, qcall_s]
      by_cases h3 : inN 400 a2
      · rw [b01_t h3, if10, if10, factM_is h1 f6 nar1, qcall_s]
        obtain ⟨l0, hl0, rfl⟩ := id h2
        obtain ⟨d0, hd0, rfl⟩ := id h3
        generalize hσ1 : sI (sI (sI σ 31 fn (-1)) 22 fn (nI d0)) 21 7 (nI (fn + 1)) = σ1
        have c : ∀ i, i ≠ 21 → i ≠ 22 → i ≠ 31 → σ1.1 i = σ.1 i := fun i q1 q2 q3 => by rw [← hσ1, sI_n _ _ _ _ q1, sI_n _ _ _ _ q2, sI_n _ _ _ _ q3]
        have c21 : ∀ i, i ≠ 7 → σ1.1 21 i = σ.1 21 i := fun i q => by rw [← hσ1, sI_s, upd_n _ _ q, sI_n _ _ _ _ (by omega), sI_n _ _ _ _ (by omega)]
        have c7 : σ1.1 21 7 = nI (fn + 1) := by rw [← hσ1, sI_s, upd_s]
        have c22 : σ1.1 22 = upd (σ.1 22) fn (nI d0) := by rw [← hσ1, sI_n _ _ _ _ (by omega), sI_s, sI_n _ _ _ _ (by omega)]
        have c31 : σ1.1 31 = upd (σ.1 31) fn (-1) := by rw [← hσ1, sI_n _ _ _ _ (by omega), sI_n _ _ _ _ (by omega), sI_s]
        have cs : σ1.2 = σ.2 := by rw [← hσ1]; rfl
        have hold : σ1.1 (24 + l0) d0 = nI (firstC μ l0 d0 fn) := by rw [c (24 + l0) (by omega) (by omega) (by omega)]; exact f9 l0 d0 (by omega) hd0
        have hle := firstC_le μ l0 d0 fn
        have hC : fX0_addCloud σ (nI l0) (nI d0) = some (nI fn, if firstC μ l0 d0 fn = 0 then sI σ1 (24 + l0) d0 (nI (fn + 1)) else σ1) := by
          unfold fX0_addCloud
          have e1 : (sI (sI σ 31 fn (-1)) 22 fn (nI d0)).1 21 7 = nI fn := by rw [sI_n _ _ _ _ (by omega), sI_n _ _ _ _ (by omega)]; exact f5
          simp only [qlet, f5, qix_nI h1 (show 300 ≤ 2 ^ 31 by omega), nI_clamp (show fn < 2 ^ 31 by omega), e1, nI_1, hσ1, qix_nI (show l0 < 6 by omega) (show 6 ≤ 2 ^ 31 by omega), qix_nI hd0 (show 400 ≤ 2 ^ 31 by omega), nI_clamp (show l0 < 2 ^ 31 by omega), nI_clamp (show d0 < 2 ^ 31 by omega), hold, c7]
          by_cases q : firstC μ l0 d0 fn = 0
          · rw [q, if_pos nI_0, if_pos rfl]
          · rw [if_neg (nI_ne0 (by omega) (by omega)), if_neg q]
        rw [hC, qcall_s]
        obtain ⟨r1, r2, r3, r4, r5⟩ := factM_row (μ := μ) (fn := fn) (z := 1) (a2 := nI l0) (a3 := nI d0) (w := nI (fn + 1))
        have pt := factM_pt (μ := μ) (wn := wn) (fn := fn) (z := 1) (a2 := nI l0) (a3 := nI d0) (w := nI (fn + 1))
        generalize hμ1 : sI (sI (sI (sI μ 29 fn 1) 30 fn (nI l0)) 31 fn (nI d0)) 0 45 (nI (fn + 1)) = μ1 at r1 r2 r3 r4 r5 pt ⊢
        have m45 : μ1.1 0 45 = nI (fn + 1) := by rw [← hμ1, sI_s, upd_s]
        have ms : μ1.2 = μ.2 := by rw [← hμ1]; rfl
        have isc : ∀ l d, isCl μ1 l d fn ↔ (nI l0 = nI l ∧ nI d0 = nI d) := fun l d => by
          unfold isCl
          rw [r3, r4, r5, upd_s, upd_s, upd_s]
          exact ⟨fun z => z.2, fun z => ⟨rfl, z⟩⟩
        generalize hσ2 : (if firstC μ l0 d0 fn = 0 then sI σ1 (24 + l0) d0 (nI (fn + 1)) else σ1) = σ2
        have s : ∀ i, i ≠ 24 + l0 → σ2.1 i = σ1.1 i := fun i hi => by
          rw [← hσ2]
          split
          · rw [sI_n _ _ _ _ hi]
          · rfl
        have s2 : σ2.2 = σ1.2 := by
          rw [← hσ2]
          split <;> rfl
        have srow : ∀ d, σ2.1 (24 + l0) d = if firstC μ l0 d0 fn = 0 ∧ d = d0 then nI (fn + 1) else σ1.1 (24 + l0) d := fun d => by
          rw [← hσ2]
          by_cases q : firstC μ l0 d0 fn = 0
          · rw [if_pos q, sI_s]
            by_cases q2 : d = d0
            · rw [q2, upd_s, if_pos ⟨q, rfl⟩]
            · rw [upd_n _ _ q2, if_neg (fun z => q2 z.2)]
          · rw [if_neg q, if_neg (fun z => q z.1)]
        refine ⟨fn + 1, nI fn, σ2, μ1, rfl, rfl, I.facts ⟨f1, by omega, by rw [s 21 (by omega), c21 6 (by omega)]; exact f3, by rw [r2 43 (by omega)]; exact f4, by rw [s 21 (by omega)]; exact c7, m45, fun w hw => ?_, fun k hk => ?_, fun l d hl hd => ?_⟩ (by omega) pt (fun i hi => by rw [s i (by omega), c i (by omega) (by omega) (by omega)]) (by rw [s 21 (by omega), c21 8 (by omega)]) (s2.trans cs) (fun i q hi => r1 i q (by omega) (by omega) (by omega)) (fun i q1 q2 => r2 i q2) ms⟩
        · rw [s 30 (by omega), c 30 (by omega) (by omega) (by omega), r1 28 (by omega) (by omega) (by omega) (by omega)]
          exact f7 w hw
        · rw [s 22 (by omega), s 31 (by omega), c22, c31, r3, r4, r5]
          by_cases q : k = fn
          · subst q
            rw [upd_s, upd_s, upd_s, upd_s, upd_s]
            exact ⟨rfl, ⟨d0, hd0, rfl⟩, Or.inr ⟨rfl, rfl, l0, hl0, rfl⟩⟩
          · rw [upd_n _ _ q, upd_n _ _ q, upd_n _ _ q, upd_n _ _ q, upd_n _ _ q]
            exact f8 k (by omega)
        · rw [firstC, pt.first l d fn (Nat.le_refl fn)]
          have old := f9 l d hl hd
          by_cases ql : l = l0
          · subst ql
            rw [srow d, c (24 + l) (by omega) (by omega) (by omega), old]
            by_cases qd : d = d0
            · subst qd
              by_cases q0 : firstC μ l d fn = 0
              · rw [if_pos ⟨q0, rfl⟩, if_pos q0, if_pos ((isc l d).mpr ⟨rfl, rfl⟩)]
              · rw [if_neg (fun z => q0 z.1), if_neg q0]
            · rw [if_neg (fun z => qd z.2)]
              have nc : ¬ isCl μ1 l d fn := fun z => qd ((nI_eq (by omega) (by omega)).mp ((isc l d).mp z).2).symm
              rw [if_neg nc]
              by_cases q0 : firstC μ l d fn = 0
              · rw [if_pos q0, q0]
              · rw [if_neg q0]
          · rw [s (24 + l) (by omega), c (24 + l) (by omega) (by omega) (by omega), old]
            have nc : ¬ isCl μ1 l d fn := fun z => ql ((nI_eq (by omega) (by omega)).mp ((isc l d).mp z).1).symm
            rw [if_neg nc]
            by_cases q0 : firstC μ l d fn = 0
            · rw [if_pos q0, q0]
            · rw [if_neg q0]
      · rw [b01_f h3, if00, if00]
        exact ⟨fn, _, σ, μ, rfl, rfl, I⟩
    · rw [b01_f h2, if00, if00]
      exact ⟨fn, _, σ, μ, rfl, rfl, I⟩
  · have : fn = 300 := by omega
    subst this
    rw [if_pos (show (300 : Int32) ≤ nI 300 by decide), if_pos (show nI 300 = 300 from rfl)]
    exact ⟨300, _, σ, μ, rfl, rfl, I⟩
