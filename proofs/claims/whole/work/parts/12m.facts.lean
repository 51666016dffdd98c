-- ===== witness, report, cloud =====
def PtM (μ μ' : St) (wn fn : Nat) : Prop := (∀ i, 22 ≤ i → i ≤ 27 → μ'.1 i = μ.1 i) ∧ (∀ w, w < wn → μ'.1 28 w = μ.1 28 w) ∧ ∀ j, j < fn → μ'.1 29 j = μ.1 29 j ∧ μ'.1 30 j = μ.1 30 j ∧ μ'.1 31 j = μ.1 31 j
theorem PtM.cloud {μ μ' : St} {wn fn : Nat} (h : PtM μ μ' wn fn) (l d : Nat) : ∀ n, n ≤ fn → cloudB μ' l d n = cloudB μ l d n
  | 0, _ => rfl
  | n + 1, hn => by
    obtain ⟨h1, h2, h3⟩ := h.2.2 n (by omega)
    rw [cloudB, cloudB, h.cloud l d n (by omega)]
    unfold isCl
    rw [h1, h2, h3]
theorem PtM.first {μ μ' : St} {wn fn : Nat} (h : PtM μ μ' wn fn) (l d : Nat) : ∀ n, n ≤ fn → firstC μ' l d n = firstC μ l d n
  | 0, _ => rfl
  | n + 1, hn => by
    obtain ⟨h1, h2, h3⟩ := h.2.2 n (by omega)
    have e : isCl μ' l d n = isCl μ l d n := by unfold isCl; rw [h1, h2, h3]
    rw [firstC, firstC, h.first l d n (by omega)]
    by_cases q : isCl μ l d n
    · rw [if_pos q, if_pos (show isCl μ' l d n by rw [e]; exact q)]
    · rw [if_neg q, if_neg (show ¬ isCl μ' l d n by rw [e]; exact q)]
theorem PtM.light {μ μ' : St} {wn fn : Nat} (h : PtM μ μ' wn fn) (mo l : Nat) (d : Int32) : lightS μ' mo l d = lightS μ mo l d := by
  unfold lightS
  rw [h.1 22 (by omega) (by omega), h.1 23 (by omega) (by omega), h.1 25 (by omega) (by omega), h.1 26 (by omega) (by omega)]
theorem PtM.jud {σ μ μ' : St} {mo la wn fn k n : Nat} (h : PtM μ μ' wn fn) (F : InvF σ μ la wn fn) (hk : k < n) (hn : n ≤ fn) : judS μ' mo n k = judS μ mo n k := by
  obtain ⟨h1, h2, h3⟩ := h.2.2 k (by omega)
  unfold judS
  rw [h1]
  rcases (F.2.2.2.2.2.2.2.1 k (by omega)).2.2 with ⟨q1, -, w, hw, q3⟩ | ⟨q1, -⟩
  · have hwn := F.1
    rw [if_pos q1, if_pos q1]
    unfold verdS verdL
    rw [h2, h3, q3, nI_clamp (by omega), h.2.1 w hw, h.light, h.cloud _ _ n hn]
  · rw [if_neg (by rw [q1]; decide), if_neg (by rw [q1]; decide)]
/-- facts and witnesses come: what was told stays -/
theorem Inv.facts {σ σ' μ μ' : St} {mo la wn fn wn' fn' : Nat} (I : Inv σ μ mo la wn fn) (F' : InvF σ' μ' la wn' fn') (hfn : fn ≤ fn') (p : PtM μ μ' wn fn) (h : ∀ i, i ≤ 20 ∨ 32 ≤ i → σ'.1 i = σ.1 i) (h8 : σ'.1 21 8 = σ.1 21 8) (h2 : σ'.2 = σ.2) (g : ∀ i, 1 ≤ i → i ≤ 27 ∨ 32 ≤ i → μ'.1 i = μ.1 i) (g0 : ∀ i, i ≠ 43 → i ≠ 45 → μ'.1 0 i = μ.1 0 i) (g2 : μ'.2 = μ.2 := by rfl) : Inv σ' μ' mo la wn' fn' := by
  obtain ⟨W, F, T, P, J, S, X⟩ := I
  have hla := W.2.1
  refine ⟨(W.congr (fun i h1 h2 => h i (by omega))).congrM (fun i h1 h2 => g i (by omega) (by omega)) (g0 35 (by omega) (by omega)) (g0 37 (by omega) (by omega)), F', ?_, by rw [h 0 (by omega), g0 17 (by omega) (by omega)]; exact P, ?_, ?_, X.mono ⟨fun i h1 h3 h4 => h i (by omega), by rw [h2]⟩ (fun i h1 h3 => g i (by omega) (by omega)) g2⟩
  · unfold InvT
    rw [h 0 (by omega), h 1 (by omega), g0 2 (by omega) (by omega), g 1 (by omega) (by omega)]
    exact T
  · rcases J with q | ⟨k, hk, q⟩
    · exact Or.inl (by rw [h8]; exact q)
    · exact Or.inr ⟨k, by omega, by rw [h8]; exact q.1, fun j hj => by rw [h 32 (by omega), p.jud F hj hk]; exact q.2 j hj⟩
  · unfold InvS
    rw [h 36 (by omega), g0 49 (by omega) (by omega)]
    exact ⟨S.1, S.2.imp id (fun q => ⟨by obtain ⟨k, hk, e⟩ := q.1; exact ⟨k, by omega, e⟩, fun l hl => (q.2 l hl).congr (fun i hi => h i (by omega)) (fun i hi => g i (by omega) (by omega))⟩)⟩
theorem p_witness {σ μ : St} {mo la wn fn : Nat} (I : Inv σ μ mo la wn fn) (a1 : Int32) : ∃ wn' r σ' μ', fX5_witness σ a1 = some (r, σ') ∧ fX6_witness μ a1 = some (r, μ') ∧ Inv σ' μ' mo la wn' fn := by
  obtain ⟨W, F, -⟩ := id I
  have hla := W.2.1
  obtain ⟨f1, f2, f3, f4, f5, f6, f7, f8, f9⟩ := id F
  unfold fX5_witness fX6_witness
  simp only [qlet, f3, f4]
  by_cases h1 : wn < 12
  · rw [if_neg (show ¬ (12 : Int32) ≤ nI wn from nI_ge (a := wn) (b := 12) h1 (by omega)), if_neg (show ¬ nI wn = 12 from fun q => absurd ((nI_eq (a := wn) (b := 12) (by omega) (by omega)).mp q) (by omega)), isLandC W.2.2.2.2.1 hla, isLandM W.2.2.2.2.2.1 hla, qcall_s, qcall_s]
    by_cases h2 : inN la a1
    · rw [b01_t h2, if10, if10, f4]
      have e1 : (sI μ 28 wn a1).1 0 43 = nI wn := by rw [sI_n _ _ _ _ (by omega)]; exact f4
      have e3 : (sI (sI μ 28 wn a1) 0 43 (nI (wn + 1))).1 0 43 = nI (wn + 1) := by rw [sI_s, upd_s]
      simp only [qix_nI h1 (show 12 ≤ 2 ^ 31 by omega), nI_clamp (show wn < 2 ^ 31 by omega), nI_1, e1, e3, nI_m1]
      have g : ∀ i, 1 ≤ i → i ≠ 28 → (sI (sI μ 28 wn a1) 0 43 (nI (wn + 1))).1 i = μ.1 i := fun i q1 q2 => by rw [sI_n _ _ _ _ (by omega), sI_n _ _ _ _ q2]
      have g0 : ∀ i, i ≠ 43 → (sI (sI μ 28 wn a1) 0 43 (nI (wn + 1))).1 0 i = μ.1 0 i := fun i q => by rw [sI_s, upd_n _ _ q, sI_n _ _ _ _ (by omega)]
      have e28 : (sI (sI μ 28 wn a1) 0 43 (nI (wn + 1))).1 28 = upd (μ.1 28) wn a1 := by rw [sI_n _ _ _ _ (by omega), sI_s]
      have c : ∀ i, i ≠ 21 → i ≠ 30 → (sI (sI σ 30 wn a1) 21 6 (nI (wn + 1))).1 i = σ.1 i := fun i q1 q2 => by rw [sI_n _ _ _ _ q1, sI_n _ _ _ _ q2]
      have c21 : ∀ i, i ≠ 6 → (sI (sI σ 30 wn a1) 21 6 (nI (wn + 1))).1 21 i = σ.1 21 i := fun i q => by rw [sI_s, upd_n _ _ q, sI_n _ _ _ _ (by omega)]
      have pt : PtM μ (sI (sI μ 28 wn a1) 0 43 (nI (wn + 1))) wn fn := ⟨fun i q1 q2 => g i (by omega) (by omega), fun w hw => by rw [e28, upd_n _ _ (by omega)], fun j hj => by rw [g 29 (by omega) (by omega), g 30 (by omega) (by omega), g 31 (by omega) (by omega)]; exact ⟨rfl, rfl, rfl⟩⟩
      refine ⟨wn + 1, nI wn, _, _, rfl, rfl, I.facts ⟨by omega, f2, by rw [sI_s, upd_s], e3, by rw [c21 7 (by omega)]; exact f5, by rw [g0 45 (by omega)]; exact f6, fun w hw => ?_, fun k hk => ?_, fun l d hl hd => ?_⟩ (Nat.le_refl fn) pt (fun i hi => c i (by omega) (by omega)) (c21 8 (by omega)) rfl (fun i q hi => g i q (by omega)) (fun i q1 q2 => g0 i q1)⟩
      · rw [e28, sI_n _ _ _ _ (by omega), sI_s]
        by_cases q : w = wn
        · subst q
          rw [upd_s, upd_s]
          obtain ⟨x, hx, rfl⟩ := h2
          exact ⟨rfl, x, hx, rfl⟩
        · rw [upd_n _ _ q, upd_n _ _ q]
          exact f7 w (by omega)
      · rw [c 22 (by omega) (by omega), c 31 (by omega) (by omega), g 29 (by omega) (by omega), g 30 (by omega) (by omega), g 31 (by omega) (by omega)]
        obtain ⟨z1, z2, z3⟩ := f8 k hk
        exact ⟨z1, z2, z3.imp (fun ⟨y1, y2, w, hw, y3⟩ => ⟨y1, y2, w, by omega, y3⟩) id⟩
      · rw [c (24 + l) (by omega) (by omega), pt.first l d fn (Nat.le_refl fn)]
        exact f9 l d hl hd
    · rw [b01_f h2, if00, if00]
      exact ⟨wn, _, σ, μ, rfl, rfl, I⟩
  · have : wn = 12 := by omega
    subst this
    rw [if_pos (show (12 : Int32) ≤ nI 12 by decide), if_pos (show nI 12 = 12 from rfl)]
    exact ⟨12, _, σ, μ, rfl, rfl, I⟩
