theorem fX1_askVars_gen {σ μ : St} {mo la wn fn n l t d e : Nat} {E : Nat → Nat} (W : InvW σ μ mo la) (F : InvF σ μ la wn fn) (J : Judged σ μ mo n) (hn : n ≤ fn) (hl : l < la) (ht1 : 1 ≤ t) (ht : t ≤ 14) (hd : d < 400) (he : e < 400) (hD : ∀ o, o < la → E o ≤ 400 ∧ LandR σ μ o (E o)) (h13 : σ.1 59 13 = nI t) (N : Nat) (hN2 : 1000 ≤ N) : ∃ σ', fX1_askVars_L (nI l) (nI d) (nI e) N 0 (sI (sI (sI (sI σ 36 8 0) 59 7 0) 59 8 0) 59 9 0) = some (0, σ') ∧ (∀ i, i ≠ 36 → i ≠ 59 → σ'.1 i = σ.1 i) ∧ (∀ i, i ≠ 8 → σ'.1 36 i = σ.1 36 i) ∧ σ'.2 = σ.2 ∧ σ'.1 59 6 = σ.1 59 6 ∧ σ'.1 59 7 = sS (seerS μ mo l (nI d) (nI e) n n) 12 ∧ σ'.1 59 8 = sW (seerS μ mo l (nI d) (nI e) n n) (fun w => worthS μ mo w (nI d) n) 12 ∧ σ'.1 59 9 = sB (seerS μ mo l (nI d) (nI e) n n) (fun w => worthS μ mo w (nI d) n) 12 ∧ σ'.1 59 10 = lightS μ mo l (nI e) ∧ σ'.1 59 11 = (by classical exact if cloudB μ l e n then 1 else 0) ∧ σ'.1 59 12 = othS μ l t (nI d) (nI e) la ∧ σ'.1 59 13 = nI t := by
  have hla := W.2.1
  have hfn := F.2.1
  generalize hσ1 : sI (sI (sI (sI σ 36 8 0) 59 7 0) 59 8 0) 59 9 0 = σ1
  have k1 : KeepV σ σ1 := by
    subst hσ1
    refine ⟨fun i h1 h2 => ?_, fun i h1 => ?_, fun i h1 h2 h3 => ?_, rfl⟩
    · rw [sI_n _ _ _ _ h2, sI_n _ _ _ _ h2, sI_n _ _ _ _ h2, sI_n _ _ _ _ h1]
    · rw [sI_n _ _ _ _ (by omega), sI_n _ _ _ _ (by omega), sI_n _ _ _ _ (by omega), sI_s, upd_n _ _ h1]
    · rw [sI_s, upd_n _ _ h3, sI_s, upd_n _ _ h2, sI_s, upd_n _ _ h1, sI_n _ _ _ _ (by omega)]
  obtain ⟨n1, n2, n3⟩ := s_none (f := fun w => worthS μ mo w (nI d) n) 12
  have S0 : SeersC σ1 μ mo l (nI d) (nI e) n 0 := by
    subst hσ1
    unfold SeersC
    rw [seerS_0, n1, n2, n3]
    refine ⟨⟨0, ?_, fun w _ => ⟨fun q => by rw [Nat.zero_testBit] at q; exact absurd q (by decide), fun q => q.elim⟩⟩, ?_, ?_, ?_⟩
    · rw [sI_n _ _ _ _ (by omega), sI_n _ _ _ _ (by omega), sI_n _ _ _ _ (by omega), sI_s, upd_s]; rfl
    · rw [sI_s, upd_n _ _ (by omega), sI_s, upd_n _ _ (by omega), sI_s, upd_s]
    · rw [sI_s, upd_n _ _ (by omega), sI_s, upd_s]
    · rw [sI_s, upd_s]
  obtain ⟨σ2, a1, a2, a3⟩ := fX1_askVars_run (μ := μ) hn (show l < 6 by omega) hd he n 0 (N - n) σ1 (k1.W W) (k1.F F) (k1.J J) S0 (by omega)
  rw [show N - n + n = N by omega, nI_0] at a1
  rw [a1]
  have k2 := k1.trans a2
  obtain ⟨q, hq⟩ : ∃ q, N - n = q + 1 := ⟨N - 1 - n, by omega⟩
  rw [hq, fX1_askVars_L, (k2.J J).1, if_pos (nI_le (Nat.le_refl _) (by omega)), fX4_lightOn_is (k2.W W) hl he, qcall_s]
  simp only [qlet, qv_10, cl_10]
  have hc := F.2.2.2.2.2.2.2.2 l e (by omega) he
  have j21 : (sI σ2 59 10 (lightS μ mo l (nI e))).1 21 8 = nI n := by rw [sI_n _ _ _ _ (by omega)]; exact (k2.J J).1
  rw [j21, fX0_isCloudy_is (show l < 6 by omega) he (by rw [sI_n _ _ _ _ (by omega), k2.1 _ (by omega) (by omega)]; exact hc) hn hfn, qcall_s]
  simp only [qv_11, qv_12, qv_13, cl_11, cl_12, cl_13]
  have fin : ∀ v : Int32, v = (by classical exact if cloudB μ l e n then 1 else 0) → ∃ σ', (qcall (fX1_countOthers (sI (sI σ2 59 10 (lightS μ mo l (nI e))) 59 11 v) (nI l) ((sI (sI σ2 59 10 (lightS μ mo l (nI e))) 59 11 v).1 59 13) (nI d) (nI e)) (fun r144 σ144 => some ((0 : Int32), sI σ144 59 12 r144))) = some (0, σ') ∧ (∀ i, i ≠ 36 → i ≠ 59 → σ'.1 i = σ.1 i) ∧ (∀ i, i ≠ 8 → σ'.1 36 i = σ.1 36 i) ∧ σ'.2 = σ.2 ∧ σ'.1 59 6 = σ.1 59 6 ∧ σ'.1 59 7 = sS (seerS μ mo l (nI d) (nI e) n n) 12 ∧ σ'.1 59 8 = sW (seerS μ mo l (nI d) (nI e) n n) (fun w => worthS μ mo w (nI d) n) 12 ∧ σ'.1 59 9 = sB (seerS μ mo l (nI d) (nI e) n n) (fun w => worthS μ mo w (nI d) n) 12 ∧ σ'.1 59 10 = lightS μ mo l (nI e) ∧ σ'.1 59 11 = (by classical exact if cloudB μ l e n then 1 else 0) ∧ σ'.1 59 12 = othS μ l t (nI d) (nI e) la ∧ σ'.1 59 13 = nI t := fun v hv => by
    generalize hσ3 : sI (sI σ2 59 10 (lightS μ mo l (nI e))) 59 11 v = σ3
    have u : ∀ i, i ≠ 59 → σ3.1 i = σ2.1 i := fun i hi => by rw [← hσ3, sI_n _ _ _ _ hi, sI_n _ _ _ _ hi]
    have u2 : ∀ i, i ≠ 10 → i ≠ 11 → σ3.1 59 i = σ2.1 59 i := fun i h1 h2 => by rw [← hσ3, sI_s, upd_n _ _ h2, sI_s, upd_n _ _ h1]
    have u10 : σ3.1 59 10 = lightS μ mo l (nI e) := by rw [← hσ3, sI_s, upd_n _ _ (by omega), sI_s, upd_s]
    have u11 : σ3.1 59 11 = v := by rw [← hσ3, sI_s, upd_s]
    have u3 : σ3.2 = σ2.2 := by rw [← hσ3]; rfl
    have e13 : σ3.1 59 13 = nI t := by rw [u2 13 (by omega) (by omega), k2.2.2.1 13 (by omega) (by omega) (by omega), h13]
    have W3 : InvW σ3 μ mo la := W.congr (fun i h1 h2 => by rw [u i (by omega), k2.1 i (by omega) (by omega)])
    rw [e13]
    unfold fX1_countOthers
    have hrun := fX1_countOthers_run (E := E) W3 hl ht1 ht hd he (fun o ho => ⟨(hD o ho).1, (hD o ho).2.congr (fun i hi => by rw [u i (by omega), k2.1 i (by omega) (by omega)]) (fun _ _ => rfl)⟩) la 0 100000 (by omega) (by omega)
    rw [nI_0] at hrun
    rw [show (0 : Int32) = othS μ l t (nI d) (nI e) 0 from rfl]
    rw [show othS μ l t (nI d) (nI e) 0 = (0 : Int32) from rfl] at hrun ⊢
    rw [hrun, qcall_s]
    refine ⟨_, rfl, fun i h1 h2 => ?_, fun i h1 => ?_, ?_, ?_, ?_, ?_, ?_, ?_, ?_, ?_, ?_⟩
    · rw [sI_n _ _ _ _ h2, u i h2, k2.1 i h1 h2]
    · rw [sI_n _ _ _ _ (by omega), u 36 (by omega), k2.2.1 i h1]
    · exact u3.trans k2.2.2.2
    · rw [sI_s, upd_n _ _ (by omega), u2 6 (by omega) (by omega), k2.2.2.1 6 (by omega) (by omega) (by omega)]
    · rw [sI_s, upd_n _ _ (by omega), u2 7 (by omega) (by omega), a3.2.1]
    · rw [sI_s, upd_n _ _ (by omega), u2 8 (by omega) (by omega), a3.2.2.1]
    · rw [sI_s, upd_n _ _ (by omega), u2 9 (by omega) (by omega), a3.2.2.2]
    · rw [sI_s, upd_n _ _ (by omega), u10]
    · rw [sI_s, upd_n _ _ (by omega), u11, hv]
    · rw [sI_s, upd_s]
    · rw [sI_s, upd_n _ _ (by omega), e13]
  by_cases hcl : cloudB μ l e n
  · rw [if_pos hcl, if_neg (by decide)]
    have := fin 1 (by rw [if_pos hcl])
    rw [if_pos hcl] at this
    exact this
  · rw [if_neg hcl, if_pos rfl]
    have := fin 0 (by rw [if_neg hcl])
    rw [if_neg hcl] at this
    exact this
theorem fX1_askVars_e (σ : St) (a b c : Int32) : fX1_askVars σ a b c = fX1_askVars_L a b c 100000 0 (sI (sI (sI (sI σ 36 8 0) 59 7 0) 59 8 0) 59 9 0) := by
  unfold fX1_askVars
  rw [qlet_e, qv_7, cl_7, qlet_e, qv_8, cl_8, qlet_e, qv_9, cl_9, qlet_e]
theorem fX1_askVars_is {σ μ : St} {mo la wn fn n l t d e : Nat} {E : Nat → Nat} (W : InvW σ μ mo la) (F : InvF σ μ la wn fn) (J : Judged σ μ mo n) (hn : n ≤ fn) (hl : l < la) (ht1 : 1 ≤ t) (ht : t ≤ 14) (hd : d < 400) (he : e < 400) (hD : ∀ o, o < la → E o ≤ 400 ∧ LandR σ μ o (E o)) (h13 : σ.1 59 13 = nI t) : ∃ σ', fX1_askVars σ (nI l) (nI d) (nI e) = some (0, σ') ∧ (∀ i, i ≠ 36 → i ≠ 59 → σ'.1 i = σ.1 i) ∧ (∀ i, i ≠ 8 → σ'.1 36 i = σ.1 36 i) ∧ σ'.2 = σ.2 ∧ σ'.1 59 6 = σ.1 59 6 ∧ σ'.1 59 7 = sS (seerS μ mo l (nI d) (nI e) n n) 12 ∧ σ'.1 59 8 = sW (seerS μ mo l (nI d) (nI e) n n) (fun w => worthS μ mo w (nI d) n) 12 ∧ σ'.1 59 9 = sB (seerS μ mo l (nI d) (nI e) n n) (fun w => worthS μ mo w (nI d) n) 12 ∧ σ'.1 59 10 = lightS μ mo l (nI e) ∧ σ'.1 59 11 = (by classical exact if cloudB μ l e n then 1 else 0) ∧ σ'.1 59 12 = othS μ l t (nI d) (nI e) la ∧ σ'.1 59 13 = nI t := by
  rw [fX1_askVars_e]
  exact fX1_askVars_gen W F J hn hl ht1 ht hd he hD h13 100000 (by omega)
