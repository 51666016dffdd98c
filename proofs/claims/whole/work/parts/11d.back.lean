-- ===== a month is set back =====
def evBk (σ : St) (a1 a2 a3 : Int32) (x : Nat) : Option (Int32 × St) := qcall (fX6_asks σ a1 a2 (σ.1 33 x - 1) (σ.1 32 a1.toNatClampNeg - 1) a3) (fun _ σ175 => qcall (fX6_ruleOf σ175 a1 (2 : Int32)) (fun r181 σ181 => if r181 = (-1 : Int32) then (some ((0 : Int32), σ181)) else (some ((0 : Int32), sI (sI (sI (sI (sI σ181 33 x (σ.1 33 x - 1)) 34 x r181) 35 x a2) 36 x (σ.1 33 x - 1)) 37 x 0))))
theorem back_get {μ : St} {x : Nat} {d e r : Int32} (k : Nat) :
    (sI (sI (sI (sI (sI μ 33 x e) 34 x r) 35 x d) 36 x e) 37 x 0).1 33 k = upd (μ.1 33) x e k ∧
    (sI (sI (sI (sI (sI μ 33 x e) 34 x r) 35 x d) 36 x e) 37 x 0).1 34 k = upd (μ.1 34) x r k ∧
    (sI (sI (sI (sI (sI μ 33 x e) 34 x r) 35 x d) 36 x e) 37 x 0).1 35 k = upd (μ.1 35) x d k ∧
    (sI (sI (sI (sI (sI μ 33 x e) 34 x r) 35 x d) 36 x e) 37 x 0).1 36 k = upd (μ.1 36) x e k ∧
    (sI (sI (sI (sI (sI μ 33 x e) 34 x r) 35 x d) 36 x e) 37 x 0).1 37 k = upd (μ.1 37) x 0 k := by
  refine ⟨?_, ?_, ?_, ?_, ?_⟩
  · rw [sI_n _ _ _ _ (by omega), sI_n _ _ _ _ (by omega), sI_n _ _ _ _ (by omega), sI_n _ _ _ _ (by omega), sI_s]
  · rw [sI_n _ _ _ _ (by omega), sI_n _ _ _ _ (by omega), sI_n _ _ _ _ (by omega), sI_s, sI_n _ _ _ _ (by omega)]
  · rw [sI_n _ _ _ _ (by omega), sI_n _ _ _ _ (by omega), sI_s, sI_n _ _ _ _ (by omega), sI_n _ _ _ _ (by omega)]
  · rw [sI_n _ _ _ _ (by omega), sI_s, sI_n _ _ _ _ (by omega), sI_n _ _ _ _ (by omega), sI_n _ _ _ _ (by omega)]
  · rw [sI_s, sI_n _ _ _ _ (by omega), sI_n _ _ _ _ (by omega), sI_n _ _ _ _ (by omega), sI_n _ _ _ _ (by omega)]
theorem back_keep {μ : St} {l m : Nat} {d e r : Int32} (hm : m ≤ 14) : KeepMl μ (sI (sI (sI (sI (sI μ 33 (16 * l + m) e) 34 (16 * l + m) r) 35 (16 * l + m) d) 36 (16 * l + m) e) 37 (16 * l + m) 0) l := by
  have row : ∀ (i j : Nat) (x : Int32) (ν : St) (o k : Nat), o ≠ l → k < 16 → (sI ν j (16 * l + m) x).1 i (16 * o + k) = ν.1 i (16 * o + k) := fun i j x ν o k ho hk => by
    by_cases q : i = j
    · subst q
      rw [sI_s, upd_n _ _ (by omega)]
    · rw [sI_n _ _ _ _ q]
  refine ⟨fun i hi => ?_, fun o ho => ?_, fun i h1 h2 o k ho hk => ?_, rfl⟩
  · rw [sI_n _ _ _ _ (by omega), sI_n _ _ _ _ (by omega), sI_n _ _ _ _ (by omega), sI_n _ _ _ _ (by omega), sI_n _ _ _ _ (by omega)]
  · rw [sI_n _ _ _ _ (by omega), sI_n _ _ _ _ (by omega), sI_n _ _ _ _ (by omega), sI_n _ _ _ _ (by omega), sI_n _ _ _ _ (by omega)]
  · rw [row _ _ _ _ _ _ ho hk, row _ _ _ _ _ _ ho hk, row _ _ _ _ _ _ ho hk, row _ _ _ _ _ _ ho hk, row _ _ _ _ _ _ ho hk]
theorem back_B {σ μ : St} {l d m : Nat} {b : Nat → Nat} {r : Int32} (B : Begun σ μ l d m b) (hl : l < 6) (hd : d < 400) (hm1 : 1 ≤ m) (h30 : b (m - 1) + 30 ≤ b m) (hr : ¬ r = -2) : Begun (sI (sI (sI σ (38 + l) m (nI (b m - 1))) (45 + l) m r) (52 + l) m (nI d)) (sI (sI (sI (sI (sI μ 33 (16 * l + m) (nI (b m - 1))) 34 (16 * l + m) r) 35 (16 * l + m) (nI d)) 36 (16 * l + m) (nI (b m - 1))) 37 (16 * l + m) 0) l (d + 1) m (fun k => if k = m then b m - 1 else b k) := by
  obtain ⟨b1, b2, b3, b4, b5, b6, b7, b8, b9⟩ := B
  refine ⟨b1, ?_, ?_, fun k hk => ?_, ?_, fun k hk => ?_, fun k h1 hk => ?_, fun k h1 h2 => ?_, fun q => ?_⟩
  · rw [sI_n _ _ _ _ (by omega), sI_n _ _ _ _ (by omega), sI_n _ _ _ _ (by omega)]
    exact b2
  · rw [sI_n _ _ _ _ (by omega), sI_n _ _ _ _ (by omega), sI_n _ _ _ _ (by omega), sI_n _ _ _ _ (by omega), sI_n _ _ _ _ (by omega)]
    exact b3
  · show (if k = m then b m - 1 else b k) + 29 ≤ (if k + 1 = m then b m - 1 else b (k + 1))
    rw [if_neg (by omega)]
    by_cases q : k + 1 = m
    · rw [if_pos q]
      have : k = m - 1 := by omega
      rw [this]
      omega
    · rw [if_neg q]
      exact b4 k hk
  · show (if m = m then b m - 1 else b m) < d + 1
    rw [if_pos rfl]
    omega
  · obtain ⟨g1, g2, g3, g4, g5⟩ := back_get (μ := μ) (x := 16 * l + m) (d := nI d) (e := nI (b m - 1)) (r := r) (16 * l + k)
    rw [g1, g2, g4, g5]
    by_cases q : k = m
    · subst q
      rw [upd_s, upd_s, upd_s, upd_s, if_neg hr]
      show _ = nI (if k = k then b k - 1 else b k) ∧ nI (b k - 1) = nI (if k = k then b k - 1 else b k) ∧ nI (b k - 1) = nI (if k = k then b k - 1 else b k) ∧ _ ∧ _
      rw [if_pos rfl]
      refine ⟨?_, rfl, rfl, ?_, rfl⟩
      · rw [sI_n _ _ _ _ (by omega), sI_n _ _ _ _ (by omega), sI_s, upd_s]
      · rw [sI_n _ _ _ _ (by omega), sI_s, upd_s]
    · rw [upd_n _ _ (by omega), upd_n _ _ (by omega), upd_n _ _ (by omega), upd_n _ _ (by omega)]
      show _ = nI (if k = m then b m - 1 else b k) ∧ _ = nI (if k = m then b m - 1 else b k) ∧ _ = nI (if k = m then b m - 1 else b k) ∧ _ ∧ _
      rw [if_neg q]
      obtain ⟨c1, c2, c3, c4, c5⟩ := b6 k hk
      refine ⟨?_, c2, c3, ?_, c5⟩
      · rw [sI_n _ _ _ _ (by omega), sI_n _ _ _ _ (by omega), sI_s, upd_n _ _ q]
        exact c1
      · rw [sI_n _ _ _ _ (by omega), sI_s, upd_n _ _ q, sI_n _ _ _ _ (by omega)]
        exact c4
  · obtain ⟨g1, g2, g3, g4, g5⟩ := back_get (μ := μ) (x := 16 * l + m) (d := nI d) (e := nI (b m - 1)) (r := r) (16 * l + k)
    rw [g3]
    by_cases q : k = m
    · subst q
      rw [upd_s]
      exact ⟨by rw [sI_s, upd_s], d, hd, rfl⟩
    · rw [upd_n _ _ (by omega)]
      obtain ⟨c1, c2⟩ := b7 k h1 hk
      exact ⟨by rw [sI_s, upd_n _ _ q, sI_n _ _ _ _ (by omega), sI_n _ _ _ _ (by omega)]; exact c1, c2⟩
  · obtain ⟨c1, c2⟩ := b8 k h1 h2
    refine ⟨?_, ?_⟩
    · rw [sI_n _ _ _ _ (by omega), sI_n _ _ _ _ (by omega), sI_s, upd_n _ _ (by omega)]
      exact c1
    · rw [sI_n _ _ _ _ (by omega), sI_s, upd_n _ _ (by omega), sI_n _ _ _ _ (by omega)]
      exact c2
  · obtain ⟨g1, g2, g3, g4, g5⟩ := back_get (μ := μ) (x := 16 * l + m) (d := nI d) (e := nI (b m - 1)) (r := r) (16 * l + m)
    rw [g2, upd_s] at q
    exact absurd q hr
theorem tryBk {σ μ : St} {mo la wn fn n l d m days : Nat} {b E : Nat → Nat} (W : InvW σ μ mo la) (F : InvF σ μ la wn fn) (J : Judged σ μ mo n) (hn : n ≤ fn) (hl : l < la) (hd : d < 400) (hD : ∀ o, o < la → E o ≤ 400 ∧ LandR σ μ o (E o)) (X : RuleR σ μ l) (B : Begun σ μ l d m b) (hdays : b m + days = d) (hm1 : 1 ≤ m) (h30 : b (m - 1) + 30 ≤ b m) : ∃ σ' μ', fX1_tryToSetBack σ (nI l) (nI d) (nI days) = some (0, σ') ∧ evBk μ (nI l) (nI d) (nI n) (16 * l + m) = some (0, μ') ∧ (∃ m' b', b' 0 = b 0 ∧ Begun σ' μ' l (d + 1) m' b') ∧ KeepC1 σ σ' l ∧ KeepM1 μ μ' l := by
  have hla := W.2.1
  obtain ⟨ht7, X⟩ := X
  obtain ⟨h0, hh0, x0⟩ := X 2 (by omega)
  have b1 := B.1
  have b2 := B.2.1
  have b3 := B.2.2.1
  have b5 := B.2.2.2.2.1
  obtain ⟨g38, g33, -⟩ := B.2.2.2.2.2.1 m (Nat.le_refl m)
  obtain ⟨bm, hbm⟩ : ∃ bm, b m = bm + 1 := ⟨b m - 1, by omega⟩
  have em : nI (m + 1) - 1 = nI m := nI_m1 m
  have eb : nI (b m) - 1 = nI (b m - 1) := by rw [hbm, nI_m1]; rfl
  unfold fX1_tryToSetBack evBk
  simp only [qix_nI (show l < 6 by omega) (show 6 ≤ 2 ^ 31 by omega), nI_clamp (show l < 2 ^ 31 by omega), qlet, qtx_lt ht7, b3, em, g33, eb]
  rw [show fX3_hasRule σ (σ.2.2 l) 2 = some (h0, σ) from hh0 σ (TX.rf σ), qcall_s]
  by_cases q0 : h0 = 0
  · rw [if_pos q0]
    obtain ⟨μ1, c1, c2, -⟩ := fX6_asks_is (e := b m - 1) W F hn hl (show m ≤ 14 by omega) hd (by omega) b1 b3 g33
    rw [c1, qcall_s]
    obtain ⟨r, σ2, μ2, e1, e2, e3, e4, e5, e6, e7, e8⟩ := x0 (sR σ 59 (fun j => μ1.1 38 (j - 6))) μ1 ⟨fun i h1 h2 h3 => by simp only [sR]; rw [if_neg (by omega)], rfl⟩ c2.mx (fun i hi => by
      simp only [sR]
      rw [if_pos trivial]
      show μ1.1 38 (6 + i - 6) = μ1.1 38 i
      rw [show 6 + i - 6 = i by omega])
    rw [show fX6_ruleOf μ1 (nI l) 2 = some (r, μ2) from e2, qcall_s, e7 q0, if_pos rfl]
    refine ⟨σ, μ2, rfl, rfl, ⟨m, b, rfl, (B.congr (fun _ _ => rfl) (fun i h1 h2 => by rw [e5 i (by omega), c2.1 i (by omega) (by omega)])).later⟩, ⟨fun _ _ _ _ _ _ _ _ => rfl, fun _ _ => rfl, fun _ _ => rfl, rfl⟩, ⟨fun i hi => ?_, fun o ho => ?_, fun i h1 h2 o k ho hk => ?_, ?_⟩⟩
    · rw [e5 i (by omega), c2.1 i (by omega) (by omega)]
    · rw [e5 32 (by omega), c2.1 32 (by omega) (by omega)]
    · rw [e5 i (by omega), c2.1 i (by omega) (by omega)]
    · exact e6.trans c2.2
  · rw [if_neg q0]
    simp only [b2, qix_nI (show m < 15 by omega) (show 15 ≤ 2 ^ 31 by omega), nI_clamp (show m < 2 ^ 31 by omega), g38, eb, qv_6, qv_13, cl_6, cl_13]
    generalize hσa : sI (sI σ 59 6 (nI days)) 59 13 (nI m) = σa
    have ka : ∀ i, i ≠ 59 → σa.1 i = σ.1 i := fun i hi => by rw [← hσa, sI_n _ _ _ _ hi, sI_n _ _ _ _ hi]
    have ka2 : σa.2 = σ.2 := by rw [← hσa]; rfl
    have a6 : σa.1 59 6 = nI days := by rw [← hσa, sI_s, upd_n _ _ (by omega), sI_s, upd_s]
    have a13 : σa.1 59 13 = nI m := by rw [← hσa, sI_s, upd_s]
    obtain ⟨σ1, μ1, c1, c2, V, c3, c4, c5, c6⟩ := ask_both (E := E) (e := b m - 1) (W.congr (fun i h1 h2 => ka i (by omega))) (F.congr (fun i h1 h2 => ka i (by omega)) (by rw [ka 21 (by omega)]) (by rw [ka 21 (by omega)])) (J.congr (by rw [ka 21 (by omega)]) (ka 32 (by omega))) hn hl hm1 (show m ≤ 14 by omega) hd (by omega) (fun o ho => ⟨(hD o ho).1, (hD o ho).2.congr (fun i hi => ka i (by omega)) (fun _ _ => rfl)⟩) a6 a13 b1 b3 g33 hdays
    have k1 : ∀ i, i ≠ 36 → i ≠ 59 → σ1.1 i = σ.1 i := fun i h1 h2 => by rw [c3 i h1 h2, ka i h2]
    have t1 : TX σ σ1 := ⟨fun i h1 h2 h3 => k1 i (by omega) (by omega), by rw [c5, ka2]⟩
    rw [c1, qcall_s, c2, qcall_s]
    obtain ⟨r0, σ3, μ2, f1, f2, f3, f4, f5, f6, f7, f8⟩ := x0 σ1 μ1 t1 c6.mx V
    rw [show fX3_firstThatHolds σ1 (σ.2.2 l) 2 = some (r0, σ3) from f1, qcall_s, show fX6_ruleOf μ1 (nI l) 2 = some (r0, μ2) from f2, qcall_s]
    have k3 : ∀ i, i ≠ 36 → i ≠ 59 → i ≠ 61 + 5 * σ.2.2 l + 4 → σ3.1 i = σ.1 i := fun i h1 h2 h3 => by rw [f3 i h3, k1 i h1 h2]
    have p3 : ∀ i, i ≠ 8 → σ3.1 36 i = σ.1 36 i := fun i hi => by rw [f3 36 (by omega), c4 i hi, ka 36 (by omega)]
    have s3 : σ3.2 = σ.2 := f4.trans (c5.trans ka2)
    have m2 : ∀ i, i ≠ 38 → i ≠ 39 → i ≠ 40 → μ2.1 i = μ.1 i := fun i h1 h2 h3 => by rw [f5 i h2, c6.1 i h1 h3]
    have n2 : μ2.2 = μ.2 := f6.trans c6.2
    have B3 : Begun σ3 μ2 l d m b := B.congr (fun i hi => k3 i (by omega) (by omega) (by omega)) (fun i h1 h2 => m2 i (by omega) (by omega) (by omega))
    by_cases q2 : r0 = -1
    · rw [if_pos q2, if_pos q2]
      refine ⟨σ3, μ2, rfl, rfl, ⟨m, b, rfl, B3.later⟩, ⟨fun i h1 h2 h3 h4 h5 h6 h7 => k3 i h1 h3 h7, p3, fun o _ => by rw [k3 58 (by omega) (by omega) (by omega)], s3⟩, ⟨fun i hi => m2 i (by omega) (by omega) (by omega), fun o _ => by rw [m2 32 (by omega) (by omega) (by omega)], fun i h1 h2 o k _ _ => by rw [m2 i (by omega) (by omega) (by omega)], n2⟩⟩
    · rw [if_neg q2, if_neg q2]
      obtain ⟨kk, hkk, hr0⟩ := f8.resolve_left q2
      have BB := back_B (r := r0) B3 (by omega) hd hm1 h30 (by rw [hr0]; exact nI_neg2 (by omega))
      have KM := back_keep (μ := μ2) (l := l) (m := m) (d := nI d) (e := nI (b m - 1)) (r := r0) (by omega)
      refine ⟨_, _, rfl, rfl, ⟨m, _, ?_, BB⟩, ⟨fun i h1 h2 h3 h4 h5 h6 h7 => ?_, fun i hi => ?_, fun o ho => ?_, ?_⟩, ⟨fun i hi => ?_, fun o ho => ?_, fun i h1 h2 o k ho hk => ?_, ?_⟩⟩
      · show (if 0 = m then b m - 1 else b 0) = b 0
        rw [if_neg (by omega)]
      · rw [sI_n _ _ _ _ h6, sI_n _ _ _ _ h5, sI_n _ _ _ _ h4, k3 i h1 h3 h7]
      · rw [sI_n _ _ _ _ (by omega), sI_n _ _ _ _ (by omega), sI_n _ _ _ _ (by omega), p3 i hi]
      · rw [sI_n _ _ _ _ (by omega), sI_n _ _ _ _ (by omega), sI_n _ _ _ _ (by omega), k3 58 (by omega) (by omega) (by omega)]
      · exact s3
      · rw [KM.1 i (by omega), m2 i (by omega) (by omega) (by omega)]
      · rw [KM.2.1 o ho, m2 32 (by omega) (by omega) (by omega)]
      · rw [KM.2.2.1 i h1 h2 o k ho hk, m2 i (by omega) (by omega) (by omega)]
      · exact n2
