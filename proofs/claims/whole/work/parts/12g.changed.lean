-- ===== changed =====
theorem ch0 (a1 a2 a3 : Int32) (n : Nat) (v4 : Int32) (σ : St) : fX6_changed_L a1 a2 a3 (n + 1) 0 v4 σ = if (15 : Int32) ≤ v4 then (qcall (fX6_goes σ a3) (fun _ σ63 => fX6_changed_L a1 a2 a3 n 1 (1 : Int32) σ63)) else (qcall (fX6_beginOf σ a1 v4) (fun r51 σ51 => qix v4 16 (qlet (sI σ51 41 v4.toNatClampNeg r51) (fun σ54 => qlet (v4 + (1 : Int32)) (fun x55 => fX6_changed_L a1 a2 a3 n 0 x55 σ54))))) := by rw [fX6_changed_L, if_pos rfl]
theorem ch1 (a1 a2 a3 : Int32) (n : Nat) (v4 : Int32) (σ : St) : fX6_changed_L a1 a2 a3 (n + 1) 1 v4 σ = if (15 : Int32) ≤ v4 then (some ((-1 : Int32), σ)) else (qcall (fX6_beginOf σ a1 v4) (fun r80 σ80 => qix v4 16 (if r80 = (σ80.1 41 v4.toNatClampNeg) then (qlet (v4 + (1 : Int32)) (fun x96 => fX6_changed_L a1 a2 a3 n 1 x96 σ80)) else (some (v4, σ80))))) := by rw [fX6_changed_L, if_neg (by decide)]
theorem chM_run {σ : St} {l : Nat} {a2 a3 : Int32} {N : Nat} (hl : l < 6) : ∀ (j k : Nat) (μ : St), j + k = 15 → 1 ≤ k → LandR σ μ l 400 → (∀ i, 1 ≤ i → i < k → μ.1 41 i = σ.1 (38 + l) i) → ∃ μ2, fX6_changed_L (nI l) a2 a3 (N + 1 + j) 0 (nI k) μ = qcall (fX6_goes μ2 a3) (fun _ σ63 => fX6_changed_L (nI l) a2 a3 N 1 (1 : Int32) σ63) ∧ (∀ i, 1 ≤ i → i < 15 → μ2.1 41 i = σ.1 (38 + l) i) ∧ (∀ i, i ≠ 41 → μ2.1 i = μ.1 i) ∧ μ2.2 = μ.2
  | 0, k, μ, e, _, R, h => by
    have : k = 15 := by omega
    subst this
    rw [show N + 1 + 0 = N + 1 by omega, ch0, if_pos (by decide)]
    exact ⟨μ, rfl, h, fun _ _ => rfl, rfl⟩
  | j + 1, k, μ, e, hk, R, h => by
    rw [show N + 1 + (j + 1) = (N + 1 + j) + 1 by omega, ch0, if_neg (show ¬ (15 : Int32) ≤ nI k from nI_ge (a := k) (b := 15) (by omega) (by omega)), beg_is hl (by omega) R, qcall_s, qix_nI (show k < 16 by omega) (by omega), nI_clamp (by omega), qlet_e, qlet_e, nI_1]
    obtain ⟨μ2, b1, b2, b3, b4⟩ := chM_run (N := N) (a2 := a2) (a3 := a3) hl j (k + 1) (sI μ 41 k (σ.1 (38 + l) k)) (by omega) (by omega) (R.congr (fun _ _ => rfl) (fun i hi => sI_n _ _ _ _ (by omega))) (fun i h1 h2 => by
      rw [sI_s]
      by_cases q : i = k
      · rw [q, upd_s]
      · rw [upd_n _ _ q]
        exact h i h1 (by omega))
    exact ⟨μ2, b1, b2, fun i hi => by rw [b3 i hi, sI_n _ _ _ _ hi], b4⟩
theorem chB_run {σ μ : St} {l : Nat} {a2 a3 : Int32} (hl : l < 6) (R : LandR σ μ l 400) (h : ∀ i, 1 ≤ i → i < 15 → σ.1 60 i = μ.1 41 i) : ∀ (j k N N' : Nat), j + k = 15 → 1 ≤ k → j < N → j < N' → ∃ r, fX5_changed_L (nI l) a2 a3 N (nI k) σ = some (r, σ) ∧ fX6_changed_L (nI l) a2 a3 N' 1 (nI k) μ = some (r, μ)
  | 0, k, N + 1, N' + 1, e, _, _, _ => by
    have : k = 15 := by omega
    subst this
    rw [fX5_changed_L, ch1, if_pos (by decide), if_pos (by decide)]
    exact ⟨_, rfl, rfl⟩
  | j + 1, k, N + 1, N' + 1, e, hk, q1, q2 => by
    rw [fX5_changed_L, ch1, if_neg (show ¬ (14 : Int32) < nI k from nI_nlt (a := 14) (b := k) (by omega) (by omega)), if_neg (show ¬ (15 : Int32) ≤ nI k from nI_ge (a := k) (b := 15) (by omega) (by omega)), beg_is hl (by omega) R, qcall_s, qix_nI hl (by omega), qix_nI (show k < 15 by omega) (by omega), qix_nI (show k < 15 by omega) (by omega), nI_clamp (show l < 2 ^ 31 by omega), nI_clamp (show k < 2 ^ 31 by omega), qix_nI (show k < 16 by omega) (by omega), h k hk (by omega)]
    by_cases q : σ.1 (38 + l) k = μ.1 41 k
    · rw [if_pos q, if_pos q, qlet_e, qlet_e, nI_1]
      exact chB_run hl R h j (k + 1) N N' (by omega) (by omega) (by omega) (by omega)
    · rw [if_neg q, if_neg q]
      exact ⟨_, rfl, rfl⟩
theorem changedC_no {σ : St} {la fn : Nat} (h7 : σ.1 2 7 = nI la) (hla : la ≤ 6) (hf : σ.1 21 7 = nI fn) (hfn : fn ≤ 300) {a1 a2 a3 : Int32} (h : ¬ (inN la a1 ∧ inN (fn + 1) a2 ∧ inN (fn + 1) a3)) : fX5_changed σ a1 a2 a3 = some (-1, σ) := by
  unfold fX5_changed
  rw [isLandC h7 hla, qcall_s, qlet_e]
  by_cases c1 : inN la a1
  · rw [b01_t c1, if10, knownC hf hfn, qcall_s]
    by_cases c2 : inN (fn + 1) a2
    · rw [b01_t c2, if10, knownC hf hfn, qcall_s, b01_f (fun q => h ⟨c1, c2, q⟩), if00]
    · rw [b01_f c2, if00]
  · rw [b01_f c1, if00]
theorem changedM_no {μ : St} {la fn : Nat} (h7 : μ.1 0 37 = nI la) (hla : la ≤ 6) (hf : μ.1 0 45 = nI fn) (hfn : fn ≤ 300) {a1 a2 a3 : Int32} (h : ¬ (inN la a1 ∧ inN (fn + 1) a2 ∧ inN (fn + 1) a3)) : fX6_changed μ a1 a2 a3 = some (-1, μ) := by
  unfold fX6_changed
  rw [isLandM h7 hla, qcall_s, qlet_e]
  by_cases c1 : inN la a1
  · rw [b01_t c1, if10, knownM hf hfn, qcall_s]
    by_cases c2 : inN (fn + 1) a2
    · rw [b01_t c2, if10, knownM hf hfn, qcall_s, b01_f (fun q => h ⟨c1, c2, q⟩), if00]
    · rw [b01_f c2, if00]
  · rw [b01_f c1, if00]
theorem p_changed {σ μ : St} {mo la wn fn : Nat} (I : Inv σ μ mo la wn fn) (a1 a2 a3 : Int32) : ∃ r σ' μ', fX5_changed σ a1 a2 a3 = some (r, σ') ∧ fX6_changed μ a1 a2 a3 = some (r, μ') ∧ Inv σ' μ' mo la wn fn := by
  obtain ⟨W, F, -⟩ := id I
  have hla := W.2.1
  have hfn := F.2.1
  by_cases h : inN la a1 ∧ inN (fn + 1) a2 ∧ inN (fn + 1) a3
  · obtain ⟨c1, c2, c3⟩ := id h
    obtain ⟨l, hl, rfl⟩ := id c1
    obtain ⟨n, hn, rfl⟩ := id c2
    obtain ⟨m, hm, rfl⟩ := id c3
    obtain ⟨σ1, μ1, s1, s2, s3, s4, s5, -, -⟩ := I.stand (n := n) (by omega)
    obtain ⟨μ2, t1, t2, t3, t4⟩ := chM_run (a2 := nI n) (a3 := nI m) (N := 99985) (show l < 6 by omega) 14 1 μ1 (by omega) (by omega) (s5 l hl) (fun i h1 h2 => absurd h2 (by omega))
    have I2 : Inv (sR σ1 60 (va_cpy (σ1.1 (38 + l)) (σ1.1 60) (0 : Int32).toNatClampNeg (0 : Int32).toNatClampNeg (15 : Int32).toNatClampNeg)) μ2 mo la wn fn := s3.side (fun i hi => by simp only [sR]; rw [if_neg hi]) rfl t3 t4
    obtain ⟨σ3, μ3, u1, u2, u3, u4, u5, u6, u7⟩ := I2.stand (n := m) (by omega)
    have hC : fX5_changed σ (nI l) (nI n) (nI m) = fX5_changed_L (nI l) (nI n) (nI m) 100000 1 σ3 := by
      unfold fX5_changed
      rw [isLandC W.2.2.2.2.1 hla, qcall_s, qlet_e, b01_t c1, if10, knownC F.2.2.2.2.1 hfn, qcall_s, b01_t c2, if10, knownC F.2.2.2.2.1 hfn, qcall_s, b01_t c3, if10, s1, qcall_s, qix_nI (show l < 6 by omega) (by omega), nI_clamp (show l < 2 ^ 31 by omega), qlet_e, u1, qcall_s]
    have hM : fX6_changed μ (nI l) (nI n) (nI m) = fX6_changed_L (nI l) (nI n) (nI m) 99985 1 1 μ3 := by
      unfold fX6_changed
      rw [isLandM W.2.2.2.2.2.1 hla, qcall_s, qlet_e, b01_t c1, if10, knownM F.2.2.2.2.2.1 hfn, qcall_s, b01_t c2, if10, knownM F.2.2.2.2.2.1 hfn, qcall_s, b01_t c3, if10, s2, qcall_s]
      rw [show 99985 + 1 + 14 = 100000 by omega] at t1
      rw [show (1 : Int32) = nI 1 from rfl, t1, u2, qcall_s]
      rfl
    obtain ⟨r, r1, r2⟩ := chB_run (a2 := nI n) (a3 := nI m) (show l < 6 by omega) (u5 l hl) (fun i h1 h2 => by
      rw [u6 60 rfl, u7 41 (by omega), t2 i h1 h2]
      simp only [sR]
      rw [if_pos trivial, pk_cpy_in (by rw [cl_0]; omega) (by rw [cl_0, cl_15]; omega), cl_0, show 0 + (i - 0) = i by omega]) 14 1 100000 99985 (by omega) (by omega) (by omega) (by omega)
    rw [hC, hM]
    exact ⟨r, σ3, μ3, r1, r2, u3⟩
  · rw [changedC_no W.2.2.2.2.1 hla F.2.2.2.2.1 hfn h, changedM_no W.2.2.2.2.2.1 hla F.2.2.2.2.2.1 hfn h]
    exact ⟨_, σ, μ, rfl, rfl, I⟩
