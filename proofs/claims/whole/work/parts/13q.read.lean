-- ===== a text, whole: both at once =====
def endM (a1 : Int32) (y : St) : Option (Int32 × St) := if (y.1 0 13) ≤ (0 : Int32) then (qlet (sI y 0 17 (-1)) (fun σ161 => if (σ161.1 0 13) ≤ (0 : Int32) then (qix a1 6 (qix a1 6 (qlet (sI σ161 8 a1.toNatClampNeg ((1 : Int32) - (σ161.1 8 a1.toNatClampNeg))) (fun σ189 => qlet (sI σ189 0 49 (-1 : Int32)) (fun σ192 => some ((0 : Int32), σ192)))))) else (some ((σ161.1 0 13), σ161)))) else (qlet (sI y 0 17 (y.1 0 14)) (fun σ161 => if (σ161.1 0 13) ≤ (0 : Int32) then (qix a1 6 (qix a1 6 (qlet (sI σ161 8 a1.toNatClampNeg ((1 : Int32) - (σ161.1 8 a1.toNatClampNeg))) (fun σ189 => qlet (sI σ189 0 49 (-1 : Int32)) (fun σ192 => some ((0 : Int32), σ192)))))) else (some ((σ161.1 0 13), σ161))))
theorem read_1 {a1 v2 : Int32} {N : Nat} {μ : St} : fX6_read_L a1 (N + 1) 1 v2 μ = if (μ.1 0 13) = (0 : Int32) then (qcall (fX6_is μ (0 : Int32)) (fun r132 σ132 => if r132 = (0 : Int32) then (qcall (fX6_tellRule σ132) (fun _ σ139 => fX6_read_L a1 N 1 0 σ139)) else endM a1 σ132)) else endM a1 μ := by
  rw [fX6_read_L, if_neg (by decide)]
  simp only [qlet_e, endM]
theorem TxM.up {μ : St} {p c n : Nat} {K : Nat → Rule} (h : TxM μ p c n K) (hc : c ≤ 500) : TxM μ p 500 n K := ⟨h.1, fun r hr => by
  obtain ⟨a1, a2, a3, a4, a5⟩ := h.2 r hr
  exact ⟨a1, a2, a3, a4, RelsO.congr hc (Nat.le_refl _) ⟨fun _ _ _ _ _ => rfl, fun _ _ _ _ _ => rfl⟩ a5⟩⟩
theorem okK_add {R s : Nat} {K : Nat → Rule} {rs : List Rel} (h : okK R K) (hR : R < 12) (hs : s < 3) (h1 : okRs rs) (h2 : rs ≠ []) : okK (R + 1) (addK K R (s, rs)) := ⟨by omega, fun r hr => by
  by_cases q : r = R
  · rw [q, addK_s]
    exact ⟨hs, h1, h2⟩
  · rw [addK_n _ _ q]
    exact h.2 r (by omega)⟩
theorem loop_sim {F t : Nat} {a2 a1 : Int32} {f : Nat → Int32} {n p : Nat} (hF : 500 ≤ F) : ∀ (N k R c : Nat) (K : Nat → Rule) (σ μ : St), PC σ f n t (offC K R) k [] [] 0 false → TxC σ t R K → okK R K → PR μ p R K [] c k → μ.1 0 11 = nI k → μ.1 0 13 = 0 → TKs f n μ → NoE f n k → 403 - k ≤ N → ∃ μ', fX6_read_L a1 N 1 0 μ = endM a1 μ' ∧ RK p μ μ' ∧ (FltR t (CL F t a2 0 k σ) σ μ' ∨ ∃ R' K' σ', CL F t a2 0 k σ = some (0, σ') ∧ RC t σ σ' ∧ TxC σ' t R' K' ∧ okK R' K' ∧ TxM μ' p 500 R' K' ∧ μ'.1 0 13 = 0)
  | 0, k, R, c, K, σ, μ, _, _, _, Q, _, _, _, _, hN => absurd Q.2.2.2.2.2.2.2.1 (by omega)
  | N + 1, k, R, c, K, σ, μ, P, TC, hK, Q, ht, hf, T, hE, hN => by
    have qk := Q.2.2.2.2.2.2.2.1
    have qc := Q.2.2.2.2.2.2.1
    have qR := Q.2.2.2.2.2.2.2.2.2.1
    have Tk := T k qk hE
    rw [read_1, hf, if_pos rfl, is_is (a := 0) (c := 25) hf ht qk Tk (by omega) rfl, qcall_s]
    by_cases q : tkK f n k = 25
    · rw [decide_eq_true q, if_neg b2t]
      obtain ⟨σ1, T1, x, e⟩ := CL_step (a2 := a2) hF (show 0 ≤ 3 by omega) qk P TC.1 qR
      rw [if_pos ⟨q, rfl⟩] at e
      exact ⟨μ, rfl, RK.rf p μ, Or.inr ⟨R, K, σ1, e, x.rc, TC.xc x, hK, Q.1.up (by omega), hf⟩⟩
    · rw [decide_eq_false q, if_pos b2f]
      obtain ⟨μ1, e1, r1, c1⟩ := rule_sim (a2 := a2) hF P TC Q ht hf T hE q
      rw [e1, qcall_s]
      rcases c1 with ⟨e, pl, σ', g1, fm, g3, g4⟩ | ⟨s, hs, hR12, k', rs', c', σ', b1, b2', b3, b4, b5, b6, b7, b8, b9, b10, b11, b12⟩
      · obtain ⟨N', rfl⟩ : ∃ N', N = N' + 1 := ⟨N - 1, by omega⟩
        rw [read_1, if_neg fm.ne.1]
        exact ⟨μ1, rfl, r1, Or.inl ⟨e, pl, σ', g1, fm, g3, g4⟩⟩
      · obtain ⟨μ', z1, z2, z3⟩ := loop_sim (a2 := a2) (a1 := a1) hF N k' (R + 1) c' (addK K R (s, rs')) σ' μ1 b4 b5 (okK_add hK hR12 hs b6 b7) b8 b9 b10 b11 b12 (by omega)
        refine ⟨μ', z1, r1.trans z2, z3.imp (fun q => q.pre b1 b2') (fun q => ?_)⟩
        obtain ⟨R', K', σ2, y1, y2, y3⟩ := q
        exact ⟨R', K', σ2, b1.trans y1, b2'.trans y2, y3⟩
-- ===== the reference takes its text over =====
theorem copy_run {a1 : Int32} {f : Nat → Int32} {n : Nat} (hn : n ≤ 2000) : ∀ (j x N : Nat) (μ : St), x + j = n → μ.1 0 4 = nI n → (∀ i, i < n → μ.1 1 i = f i ∧ (f i).toInt8.toInt32 = f i) → (∀ i, i < x → μ.1 2 i = f i) → ∃ μ', fX6_read_L a1 (N + j) 0 (nI x) μ = fX6_read_L a1 N 0 (nI n) μ' ∧ (∀ i, i < n → μ'.1 2 i = f i) ∧ (∀ i, i ≠ 2 → μ'.1 i = μ.1 i) ∧ μ'.2 = μ.2
  | 0, x, N, μ, e, _, _, h => by
    have : x = n := e
    subst this
    exact ⟨μ, rfl, h, fun _ _ => rfl, rfl⟩
  | j + 1, x, N, μ, e, h4, hb, h => by
    have b := hb x (by omega)
    obtain ⟨μ', c1, c2, c3, c4⟩ := copy_run (a1 := a1) (f := f) hn j (x + 1) N (sI μ 2 x (f x)) (by omega) (by rw [sI_n _ _ _ _ (by omega)]; exact h4) (fun i hi => by rw [sI_n _ _ _ _ (by omega)]; exact hb i hi) (fun i hi => by
      rw [sI_s]
      by_cases q : i = x
      · rw [q, upd_s]
      · rw [upd_n _ _ q]
        exact h i (by omega))
    refine ⟨μ', ?_, c2, fun i hi => by rw [c3 i hi, sI_n _ _ _ _ hi], c4⟩
    rw [show N + (j + 1) = N + j + 1 by omega, fX6_read_L, if_pos rfl, h4, if_neg (nI_ge (by omega) (by omega)), qix_nI (by omega) (by omega), qix_nI (by omega) (by omega), nI_clamp (by omega), b.1, vp_nar_byte, b.2, qlet_e, qlet_e, nI_1]
    exact c1
/-- as the reference begins to tell a text on page p -/
theorem start_M {l v n N : Nat} {f : Nat → Int32} {μ : St} (hl : l < 6) (hv : v ≤ 1) (h4 : μ.1 0 4 = nI n) (hn : n ≤ 2000) (h2 : ∀ i, i < n → μ.1 2 i = f i ∧ (f i).toInt8.toInt32 = f i) (h8 : μ.1 8 l = nI v) (K : Keys μ) : ∃ μ', fX6_read_L (nI l) (N + 1) 0 (nI n) μ = fX6_read_L (nI l) N 1 0 μ' ∧ PR μ' (2 * l + (1 - v)) 0 (fun _ => (0, [])) [] 0 0 ∧ μ'.1 0 11 = nI 0 ∧ μ'.1 0 13 = 0 ∧ TKs f n μ' ∧ (∀ i, i ≠ 0 → i ≠ 3 → i ≠ 4 → i ≠ 5 → ¬ (9 ≤ i ∧ i ≤ 21) → μ'.1 i = μ.1 i) ∧ (∀ i, i ≠ 2 → i ≠ 10 → i ≠ 11 → i ≠ 12 → i ≠ 13 → i ≠ 15 → i ≠ 19 → i ≠ 30 → μ'.1 0 i = μ.1 0 i) ∧ μ'.1 0 2 = 0 ∧ (∀ q, q ≠ 2 * l + (1 - v) → PgEq q μ μ') ∧ Keys μ' ∧ μ'.2.2 = μ.2.2 := by
  have k0 : CutK μ μ := CutK.rf μ
  have ht0 : HT (sI μ 0 2 0) f n := ⟨by rw [sI_s, upd_n _ _ (by omega)]; exact h4, hn, by rw [sI_n _ _ _ _ (by omega)]; exact h2⟩
  obtain ⟨μ1, c1, c2, c3⟩ := cut_is ht0 (show Keys (sI μ 0 2 0) from K)
  have a1 : ∀ i, i ≠ 0 → i ≠ 3 → i ≠ 4 → i ≠ 5 → μ1.1 i = μ.1 i := fun i q1 q2 q3 q4 => by rw [c2.1 i q1 q2 q3 q4, sI_n _ _ _ _ q1]
  have a0 : ∀ i, i ≠ 2 → i ≠ 10 → μ1.1 0 i = μ.1 0 i := fun i q1 q2 => by rw [c2.2.1 i q2, sI_s, upd_n _ _ q1]
  have a02 : μ1.1 0 2 = 0 := by rw [c2.2.1 2 (by omega), sI_s, upd_s]
  have aK : Keys μ1 := c2.keys K
  have a22 : μ1.2.2 = μ.2.2 := c2.2.2.2
  generalize hp : 2 * l + (1 - v) = p
  have hp12 : p < 12 := by omega
  generalize hτ : sI (sI (sI (sI μ1 0 11 0) 0 12 0) 0 13 0) 0 15 0 = τ
  have t1 : ∀ i, i ≠ 0 → τ.1 i = μ1.1 i := fun i hi => by rw [← hτ, sI_n _ _ _ _ hi, sI_n _ _ _ _ hi, sI_n _ _ _ _ hi, sI_n _ _ _ _ hi]
  have t0 : ∀ i, i ≠ 11 → i ≠ 12 → i ≠ 13 → i ≠ 15 → τ.1 0 i = μ1.1 0 i := fun i q1 q2 q3 q4 => by rw [← hτ, sI_s, upd_n _ _ q4, sI_s, upd_n _ _ q3, sI_s, upd_n _ _ q2, sI_s, upd_n _ _ q1]
  have t11 : τ.1 0 11 = 0 := by rw [← hτ, sI_s, upd_n _ _ (by omega), sI_s, upd_n _ _ (by omega), sI_s, upd_n _ _ (by omega), sI_s, upd_s]
  have t12 : τ.1 0 12 = 0 := by rw [← hτ, sI_s, upd_n _ _ (by omega), sI_s, upd_n _ _ (by omega), sI_s, upd_s]
  have t13 : τ.1 0 13 = 0 := by rw [← hτ, sI_s, upd_n _ _ (by omega), sI_s, upd_s]
  have t22 : τ.2 = μ1.2 := by rw [← hτ]; rfl
  have side : (2 : Int32) * nI l + 1 - τ.1 8 l = nI p := by rw [t1 8 (by omega), a1 8 (by omega) (by omega) (by omega) (by omega), h8, show (2 : Int32) = nI 2 from rfl, pk_mul, nI_1, pk_sub (by omega), ← hp]; congr 1; omega
  generalize hω : sI (sI (sI (sI τ 0 19 (nI p)) 9 p 0) 13 p 0) 0 30 (nI (500 * p)) = ω
  have w1 : ∀ i, i ≠ 0 → i ≠ 9 → i ≠ 13 → ω.1 i = τ.1 i := fun i q1 q2 q3 => by rw [← hω, sI_n _ _ _ _ q1, sI_n _ _ _ _ q3, sI_n _ _ _ _ q2, sI_n _ _ _ _ q1]
  have w0 : ∀ i, i ≠ 19 → i ≠ 30 → ω.1 0 i = τ.1 0 i := fun i q1 q2 => by rw [← hω, sI_s, upd_n _ _ q2, sI_n _ _ _ _ (by omega), sI_n _ _ _ _ (by omega), sI_s, upd_n _ _ q1]
  have w19 : ω.1 0 19 = nI p := by rw [← hω, sI_s, upd_n _ _ (by omega), sI_n _ _ _ _ (by omega), sI_n _ _ _ _ (by omega), sI_s, upd_s]
  have w30 : ω.1 0 30 = nI (500 * p) := by rw [← hω, sI_s, upd_s]
  have w9 : ω.1 9 = upd (τ.1 9) p 0 := by rw [← hω, sI_n _ _ _ _ (by omega), sI_n _ _ _ _ (by omega), sI_s, sI_n _ _ _ _ (by omega)]
  have w13 : ω.1 13 = upd (τ.1 13) p 0 := by rw [← hω, sI_n _ _ _ _ (by omega), sI_s, sI_n _ _ _ _ (by omega), sI_n _ _ _ _ (by omega)]
  have w22 : ω.2 = τ.2 := by rw [← hω]; rfl
  have e2 : ∀ i, i ≠ 0 → i ≠ 3 → i ≠ 4 → i ≠ 5 → i ≠ 9 → i ≠ 13 → ω.1 i = μ.1 i := fun i q1 q2 q3 q4 q5 q6 => by rw [w1 i q1 q5 q6, t1 i q1, a1 i q1 q2 q3 q4]
  refine ⟨ω, ?_, ⟨⟨by rw [w9, upd_s]; rfl, fun r hr => absurd hr (by omega)⟩, by rw [w13, upd_s]; rfl, trivial, w19, hp12, by rw [w30]; rfl, Nat.le_refl _, by omega, by decide, by omega, by rw [w0 12 (by omega) (by omega)]; exact t12⟩, by rw [w0 11 (by omega) (by omega)]; exact t11, by rw [w0 13 (by omega) (by omega)]; exact t13, fun j h1 h2 => ?_, fun i q1 q2 q3 q4 q5 => e2 i q1 q2 q3 q4 (by omega) (by omega), fun i q1 q2 q3 q4 q5 q6 q7 q8 => by rw [w0 i q7 q8, t0 i q3 q4 q5 q6, a0 i q1 q2], by rw [w0 2 (by omega) (by omega), t0 2 (by omega) (by omega) (by omega) (by omega)]; exact a02, fun q hq => ⟨?_, fun i q1 q2 r _ => by rw [e2 i (by omega) (by omega) (by omega) (by omega) (by omega) (by omega)], fun i q1 q2 r _ => by rw [e2 i (by omega) (by omega) (by omega) (by omega) (by omega) (by omega)], fun i q1 q2 r _ => by rw [e2 i (by omega) (by omega) (by omega) (by omega) (by omega) (by omega)]⟩, ?_, by rw [w22, t22, a22]⟩
  · have s8 : ∀ z, (sI τ 0 19 z).1 0 19 = z := fun z => by rw [sI_s, upd_s]
    have s9 : (sI (sI τ 0 19 (nI p)) 9 p 0).1 0 19 = nI p := by rw [sI_n _ _ _ _ (by omega), sI_s, upd_s]
    have s10 : (sI (sI (sI τ 0 19 (nI p)) 9 p 0) 13 p 0).1 0 19 = nI p := by rw [sI_n _ _ _ _ (by omega)]; exact s9
    rw [fX6_read_L, if_pos rfl, h4, if_pos (nI_le (Nat.le_refl _) (by omega)), qlet_e, c1, qcall_s]
    simp only [qlet_e]
    rw [hτ, qix_nI hl (by omega), nI_clamp (by omega), side, s8, qix_nI hp12 (by omega), nI_clamp (by omega), s9, qix_nI hp12 (by omega), nI_clamp (by omega), s10, show (500 : Int32) = nI 500 from rfl, pk_mul, hω]
  · unfold TokM
    rw [w1 3 (by omega) (by omega) (by omega), w1 4 (by omega) (by omega) (by omega), w1 5 (by omega) (by omega) (by omega), t1 3 (by omega), t1 4 (by omega), t1 5 (by omega)]
    exact c3 j h1 h2
  · rw [w9, upd_n _ _ hq, t1 9 (by omega), a1 9 (by omega) (by omega) (by omega) (by omega)]
  · unfold Keys
    rw [w22, t22]
    exact aK
