-- ===== the variables: the reference's =====
theorem newsS_congr {μ μ' : St} (h : ∀ i, 22 ≤ i → i ≤ 31 → μ'.1 i = μ.1 i) (f t : Nat) (e d : Int32) : newsS μ' f t e d = newsS μ f t e d := by
  unfold newsS
  rw [h 27 (by omega) (by omega)]
theorem hearS_congr {μ μ' : St} (h : ∀ i, 22 ≤ i → i ≤ 31 → μ'.1 i = μ.1 i) (mo l : Nat) (d e : Int32) (n k : Nat) : hearS μ' mo l d e n k = hearS μ mo l d e n k := by
  unfold hearS
  rw [newsS_congr h, verdS_congr h, h 28 (by omega) (by omega), h 29 (by omega) (by omega), h 30 (by omega) (by omega), h 31 (by omega) (by omega)]
theorem wS_congr {μ μ' : St} (h : ∀ i, 22 ≤ i → i ≤ 31 → μ'.1 i = μ.1 i) (mo w : Nat) (d : Int32) (n : Nat) : ∀ k, wS μ' mo w d n k = wS μ mo w d n k
  | 0 => rfl
  | k + 1 => by rw [wS, wS, wS_congr h mo w d n k, verdS_congr h, h 29 (by omega) (by omega), h 30 (by omega) (by omega), h 31 (by omega) (by omega)]
theorem worthS_congr {μ μ' : St} (h : ∀ i, 22 ≤ i → i ≤ 31 → μ'.1 i = μ.1 i) (mo w : Nat) (d : Int32) (n : Nat) : worthS μ' mo w d n = worthS μ mo w d n := by
  unfold worthS
  rw [wS_congr h]
def KeepM (μ μ' : St) : Prop := (∀ i, i ≠ 38 → i ≠ 40 → μ'.1 i = μ.1 i) ∧ μ'.2 = μ.2
theorem KeepM.rf (μ : St) : KeepM μ μ := ⟨fun _ _ _ => rfl, rfl⟩
theorem KeepM.trans {a b c : St} (h : KeepM a b) (g : KeepM b c) : KeepM a c := ⟨fun i h1 h2 => (g.1 i h1 h2).trans (h.1 i h1 h2), g.2.trans h.2⟩
theorem KeepM.mid {μ μ' : St} (h : KeepM μ μ') : ∀ i, 22 ≤ i → i ≤ 31 → μ'.1 i = μ.1 i := fun i h1 h2 => h.1 i (by omega) (by omega)
theorem KeepM.W {σ μ μ' : St} {mo la : Nat} (h : KeepM μ μ') (W : InvW σ μ mo la) : InvW σ μ' mo la := W.congrM (fun i h1 h2 => h.mid i h1 (by omega)) (by rw [h.1 0 (by omega) (by omega)]) (by rw [h.1 0 (by omega) (by omega)])
theorem KeepM.F {σ μ μ' : St} {la wn fn : Nat} (h : KeepM μ μ') (F : InvF σ μ la wn fn) : InvF σ μ' la wn fn := F.congrM h.mid (by rw [h.1 0 (by omega) (by omega)]) (by rw [h.1 0 (by omega) (by omega)])
theorem KeepM.s38 (μ : St) (k : Nat) (v : Int32) : KeepM μ (sI μ 38 k v) := ⟨fun i h1 _ => sI_n _ _ _ _ h1, rfl⟩
theorem KeepM.s40 (μ : St) (k : Nat) (v : Int32) : KeepM μ (sI μ 40 k v) := ⟨fun i _ h1 => sI_n _ _ _ _ h1, rfl⟩
theorem nar0 : vp_nar .boolean (0 : Int32) = 0 := rfl
theorem nar1 : vp_nar .boolean (1 : Int32) = 1 := rfl
theorem fX6_asks_run0 {a1 a2 a3 a4 a5 : Int32} : ∀ (j k m : Nat) (μ : St), j + k = 12 → (∀ w, w < k → μ.1 40 w = 0) → ∃ μ', fX6_asks_L a1 a2 a3 a4 a5 (m + 1 + j) 0 (nI k) μ = fX6_asks_L a1 a2 a3 a4 a5 m 1 0 μ' ∧ KeepM μ μ' ∧ μ'.1 38 = μ.1 38 ∧ ∀ w, w < 12 → μ'.1 40 w = 0
  | 0, k, m, μ, e, h => by
    have : k = 12 := by omega
    subst this
    rw [show m + 1 + 0 = m + 1 by omega, fX6_asks_L, if_pos rfl, if_pos (by decide)]
    exact ⟨μ, rfl, KeepM.rf μ, rfl, h⟩
  | j + 1, k, m, μ, e, h => by
    rw [show m + 1 + (j + 1) = (m + 1 + j) + 1 by omega, fX6_asks_L, if_pos rfl, if_neg (show ¬ (12 : Int32) ≤ nI k from nI_ge (a := k) (b := 12) (by omega) (by omega)), qix_nI (show k < 12 by omega) (by omega), nI_clamp (by omega), nar0]
    simp only [qlet, nI_1]
    obtain ⟨μ', b1, b2, b4, b3⟩ := fX6_asks_run0 (a1 := a1) (a2 := a2) (a3 := a3) (a4 := a4) (a5 := a5) j (k + 1) m (sI μ 40 k 0) (by omega) (fun w hw => by
      rw [sI_s]
      by_cases q : w = k
      · rw [q, upd_s]
      · rw [upd_n _ _ q]
        exact h w (by omega))
    exact ⟨μ', b1, (KeepM.s40 _ _ _).trans b2, b4.trans (sI_n _ _ _ _ (by omega)), b3⟩
theorem fX6_asks_run1 {σ μ0 : St} {mo la wn fn n l : Nat} {d e a4 : Int32} (W : InvW σ μ0 mo la) (F : InvF σ μ0 la wn fn) (hn : n ≤ fn) (hl : l < 6) : ∀ (j k m : Nat) (μ : St), j + k = n → KeepM μ0 μ → (∀ w, w < 12 → μ.1 40 w = (by classical exact if seerS μ0 mo l d e n k w then 1 else 0)) → ∃ μ', fX6_asks_L (nI l) d e a4 (nI n) (m + j) 1 (nI k) μ = fX6_asks_L (nI l) d e a4 (nI n) m 1 (nI n) μ' ∧ KeepM μ0 μ' ∧ μ'.1 38 = μ.1 38 ∧ (∀ w, w < 12 → μ'.1 40 w = (by classical exact if seerS μ0 mo l d e n n w then 1 else 0))
  | 0, k, m, μ, ek, K, h => by
    have : k = n := by omega
    subst this
    exact ⟨μ, rfl, K, rfl, h⟩
  | j + 1, k, m, μ, ek, K, h => by
    have hfn := F.2.1
    rw [show m + (j + 1) = (m + j) + 1 by omega, fX6_asks_L, if_neg (by decide), if_pos rfl, if_neg (nI_ge (by omega) (by omega)), fX6_isHeard_is (K.W W) (K.F F) hn (by omega) hl, qcall_s, hearS_congr K.mid]
    simp only [qlet, nI_1]
    by_cases q : hearS μ0 mo l d e n k
    · rw [if_pos q, if_neg (by decide), qix_nI (show k < 300 by omega) (by omega), nI_clamp (by omega)]
      obtain ⟨f1, f2, f3, f4, f5, f6, f7, f8, f9⟩ := id F
      obtain ⟨-, -, w, hw, q3⟩ := (f8 k (by omega)).2.2.resolve_right (fun z => by have := q.1; rw [z.1] at this; exact absurd this (by decide))
      rw [K.mid 30 (by omega) (by omega), q3, qix_nI (show w < 12 by omega) (by omega), nI_clamp (by omega), nar1]
      have hy := seerS_yes q q3 (show w < 2 ^ 31 by omega) (fun _ _ => trivial)
      obtain ⟨μ', b1, b2, b4, b3⟩ := fX6_asks_run1 (a4 := a4) W F hn hl j (k + 1) m (sI μ 40 w 1) (by omega) (K.trans (KeepM.s40 _ _ _)) (fun v hv => by
        rw [sI_s]
        by_cases z : v = w
        · rw [z, upd_s, if_pos ((hy w (by omega)).mpr (Or.inr rfl))]
        · rw [upd_n _ _ z, h v hv]
          by_cases p : seerS μ0 mo l d e n k v
          · rw [if_pos p, if_pos ((hy v hv).mpr (Or.inl p))]
          · rw [if_neg p, if_neg (fun y => ((hy v hv).mp y).elim p z)])
      exact ⟨μ', b1, b2, b4.trans (sI_n _ _ _ _ (by omega)), b3⟩
    · rw [if_neg q, if_pos rfl]
      exact fX6_asks_run1 (a4 := a4) W F hn hl j (k + 1) m μ (by omega) K (fun v hv => by rw [seerS_no q]; exact h v hv)
theorem fX6_asks_run2 {σ μ0 : St} {mo la wn fn n : Nat} {d e a1 a4 : Int32} {P : Nat → Prop} (W : InvW σ μ0 mo la) (F : InvF σ μ0 la wn fn) (hn : n ≤ fn) : ∀ (j k m : Nat) (μ : St), j + k = wn → KeepM μ0 μ → (∀ w, w < 12 → μ.1 40 w = (by classical exact if P w then 1 else 0)) → μ.1 38 1 = sS P k → μ.1 38 2 = sW P (fun w => worthS μ0 mo w d n) k → μ.1 38 3 = sB P (fun w => worthS μ0 mo w d n) k → ∃ μ', fX6_asks_L a1 d e a4 (nI n) (m + j) 2 (nI k) μ = fX6_asks_L a1 d e a4 (nI n) m 2 (nI wn) μ' ∧ KeepM μ0 μ' ∧ μ'.1 38 0 = μ.1 38 0 ∧ μ'.1 38 1 = sS P wn ∧ μ'.1 38 2 = sW P (fun w => worthS μ0 mo w d n) wn ∧ μ'.1 38 3 = sB P (fun w => worthS μ0 mo w d n) wn
  | 0, k, m, μ, ek, K, h, h1, h2, h3 => by
    have : k = wn := by omega
    subst this
    exact ⟨μ, rfl, K, rfl, h1, h2, h3⟩
  | j + 1, k, m, μ, ek, K, h, h1, h2, h3 => by
    have hwn := F.1
    have hw4 : μ.1 0 43 = nI wn := by rw [K.1 0 (by omega) (by omega)]; exact F.2.2.2.1
    rw [show m + (j + 1) = (m + j) + 1 by omega, fX6_asks_L, if_neg (by decide), if_neg (by decide), if_pos rfl, hw4, if_neg (nI_ge (by omega) (by omega)), qix_nI (show k < 12 by omega) (by omega), nI_clamp (by omega), h k (by omega)]
    simp only [qlet, nI_1]
    by_cases p : P k
    · rw [if_pos p, if_neg (by decide), fX6_worthOf_is (K.W W) (K.F F) hn, qcall_s, worthS_congr K.mid]
      simp only [qm_1, qm_2, qm_3, cl_1, cl_2, cl_3]
      have K1 := (K.trans (KeepM.s38 μ 1 (μ.1 38 1 + 1))).trans (KeepM.s38 _ 2 ((sI μ 38 1 (μ.1 38 1 + 1)).1 38 2 + worthS μ0 mo k d n))
      have e3 : (sI (sI μ 38 1 (μ.1 38 1 + 1)) 38 2 ((sI μ 38 1 (μ.1 38 1 + 1)).1 38 2 + worthS μ0 mo k d n)).1 38 3 = μ.1 38 3 := by rw [sI_s, upd_n _ _ (by omega), sI_s, upd_n _ _ (by omega)]
      have e2 : (sI μ 38 1 (μ.1 38 1 + 1)).1 38 2 = μ.1 38 2 := by rw [sI_s, upd_n _ _ (by omega)]
      by_cases q : worthS μ0 mo k d n ≤ μ.1 38 3
      · rw [if_pos (by rw [e3]; exact q)]
        obtain ⟨μ', b0, b1, b2, b3⟩ := fX6_asks_run2 (a1 := a1) (e := e) (a4 := a4) (P := P) W F hn j (k + 1) m _ (by omega) K1 (fun w hw => by rw [sI_n _ _ _ _ (by omega), sI_n _ _ _ _ (by omega)]; exact h w hw) (by rw [sS, if_pos p, sI_s, upd_n _ _ (by omega), sI_s, upd_s, h1]) (by rw [sW, if_pos p, sI_s, upd_s, e2, h2]) (by rw [sB, if_pos p, e3, ← h3, if_pos q])
        exact ⟨μ', b0, b1, b2.trans (by rw [sI_s, upd_n _ _ (by omega), sI_s, upd_n _ _ (by omega)]), b3⟩
      · rw [if_neg (by rw [e3]; exact q)]
        obtain ⟨μ', b0, b1, b2, b3⟩ := fX6_asks_run2 (a1 := a1) (e := e) (a4 := a4) (P := P) W F hn j (k + 1) m _ (by omega) (K1.trans (KeepM.s38 _ 3 (worthS μ0 mo k d n))) (fun w hw => by rw [sI_n _ _ _ _ (by omega), sI_n _ _ _ _ (by omega), sI_n _ _ _ _ (by omega)]; exact h w hw) (by rw [sS, if_pos p, sI_s, upd_n _ _ (by omega), sI_s, upd_n _ _ (by omega), sI_s, upd_s, h1]) (by rw [sW, if_pos p, sI_s, upd_n _ _ (by omega), sI_s, upd_s, e2, h2]) (by rw [sB, if_pos p, sI_s, upd_s, ← h3, if_neg q])
        exact ⟨μ', b0, b1, b2.trans (by rw [sI_s, upd_n _ _ (by omega), sI_s, upd_n _ _ (by omega), sI_s, upd_n _ _ (by omega)]), b3⟩
    · rw [if_neg p, if_pos rfl]
      exact fX6_asks_run2 (a1 := a1) (e := e) (a4 := a4) (P := P) W F hn j (k + 1) m μ (by omega) K h (by rw [sS, if_neg p]; exact h1) (by rw [sW, if_neg p]; exact h2) (by rw [sB, if_neg p]; exact h3)
