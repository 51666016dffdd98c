-- ===== twenty-nine days =====
def ev29 (σ : St) (a1 a2 a3 : Int32) : Option (Int32 × St) := qcall (fX6_asks σ a1 a2 a2 (σ.1 32 a1.toNatClampNeg) a3) (fun _ σ89 => qcall (fX6_ruleOf σ89 a1 (0 : Int32)) (fun r95 σ95 => if r95 = (-1 : Int32) then (some ((0 : Int32), σ95)) else (qcall (fX6_ruleOf σ95 a1 (1 : Int32)) (fun r109 σ109 => if r109 = (-1 : Int32) then (qcall (fX6_adds σ109 a1 a2 r95) (fun _ σ121 => some ((0 : Int32), σ121))) else (some ((0 : Int32), σ109))))))
theorem nI_neg2 {k : Nat} (h : k < 2 ^ 31) : ¬ nI k = -2 := fun q => by
  have := congrArg Int32.toInt q
  rw [nI_toInt h] at this
  have e : (-2 : Int32).toInt = -2 := by decide
  omega
theorem KeepM.mx {μ μ' : St} (h : KeepM μ μ') : MX μ μ' := fun i h1 h2 => h.1 i (by omega) (by omega)
theorem MX.pile {μ1 μ2 : St} (h : ∀ i, i ≠ 39 → μ2.1 i = μ1.1 i) : MX μ1 μ2 := fun i h1 h2 => h i (by omega)
theorem try29 {σ μ : St} {mo la wn fn n l d m : Nat} {b E : Nat → Nat} (W : InvW σ μ mo la) (F : InvF σ μ la wn fn) (J : Judged σ μ mo n) (hn : n ≤ fn) (hl : l < la) (hd : d < 400) (hD : ∀ o, o < la → E o ≤ 400 ∧ LandR σ μ o (E o)) (X : RuleR σ μ l) (B : Begun σ μ l d m b) (h29 : b m + 29 = d) : ∃ σ' μ', fX1_tryToBegin σ (nI l) (nI d) = some (0, σ') ∧ ev29 μ (nI l) (nI d) (nI n) = some (0, μ') ∧ (∃ m' b', b' 0 = b 0 ∧ Begun σ' μ' l (d + 1) m' b') ∧ KeepC1 σ σ' l ∧ KeepM1 μ μ' l := by
  have hla := W.2.1
  obtain ⟨ht7, X⟩ := X
  obtain ⟨h0, hh0, x0⟩ := X 0 (by omega)
  obtain ⟨h1, -, x1⟩ := X 1 (by omega)
  have b1 := B.1
  have b2 := B.2.1
  have b3 := B.2.2.1
  obtain ⟨-, g33, -⟩ := B.2.2.2.2.2.1 m (Nat.le_refl m)
  unfold fX1_tryToBegin ev29
  simp only [qix_nI (show l < 6 by omega) (show 6 ≤ 2 ^ 31 by omega), nI_clamp (show l < 2 ^ 31 by omega), qlet, qtx_lt ht7, b3]
  rw [show fX3_hasRule σ (σ.2.2 l) 0 = some (h0, σ) from hh0 σ (TX.rf σ), qcall_s]
  by_cases q0 : h0 = 0
  · rw [if_pos q0]
    obtain ⟨μ1, c1, c2, -⟩ := fX6_asks_is W F hn hl (show m + 1 ≤ 14 by omega) hd hd b1 b3 g33
    rw [c1, qcall_s]
    obtain ⟨r, σ2, μ2, e1, e2, e3, e4, e5, e6, e7, e8⟩ := x0 (sR σ 59 (fun j => μ1.1 38 (j - 6))) μ1 ⟨fun i h1 h2 h3 => by simp only [sR]; rw [if_neg (by omega)], rfl⟩ c2.mx (fun i hi => by
      simp only [sR]
      rw [if_pos trivial]
      show μ1.1 38 (6 + i - 6) = μ1.1 38 i
      rw [show 6 + i - 6 = i by omega])
    rw [show fX6_ruleOf μ1 (nI l) 0 = some (r, μ2) from e2, qcall_s, e7 q0, if_pos rfl]
    refine ⟨σ, μ2, rfl, rfl, ⟨m, b, rfl, (B.congr (fun _ _ => rfl) (fun i h1 h2 => by rw [e5 i (by omega), c2.1 i (by omega) (by omega)])).later⟩, ⟨fun _ _ _ _ _ _ _ _ => rfl, fun _ _ => rfl, fun _ _ => rfl, rfl⟩, ⟨fun i hi => ?_, fun o ho => ?_, fun i h1 h2 o k ho hk => ?_, ?_⟩⟩
    · rw [e5 i (by omega), c2.1 i (by omega) (by omega)]
    · rw [e5 32 (by omega), c2.1 32 (by omega) (by omega)]
    · rw [e5 i (by omega), c2.1 i (by omega) (by omega)]
    · exact e6.trans c2.2
  · rw [if_neg q0]
    simp only [qv_6, qv_13, cl_6, cl_13]
    have e58 : (sI σ 59 6 29).1 58 l = nI m := by rw [sI_n _ _ _ _ (by omega)]; exact b2
    rw [e58, nI_1]
    generalize hσa : sI (sI σ 59 6 29) 59 13 (nI (m + 1)) = σa
    have ka : ∀ i, i ≠ 59 → σa.1 i = σ.1 i := fun i hi => by rw [← hσa, sI_n _ _ _ _ hi, sI_n _ _ _ _ hi]
    have ka2 : σa.2 = σ.2 := by rw [← hσa]; rfl
    have a6 : σa.1 59 6 = nI 29 := by rw [← hσa, sI_s, upd_n _ _ (by omega), sI_s, upd_s]; rfl
    have a13 : σa.1 59 13 = nI (m + 1) := by rw [← hσa, sI_s, upd_s]
    obtain ⟨σ1, μ1, c1, c2, V, c3, c4, c5, c6⟩ := ask_both (E := E) (W.congr (fun i h1 h2 => ka i (by omega))) (F.congr (fun i h1 h2 => ka i (by omega)) (by rw [ka 21 (by omega)]) (by rw [ka 21 (by omega)])) (J.congr (by rw [ka 21 (by omega)]) (ka 32 (by omega))) hn hl (show 1 ≤ m + 1 by omega) (show m + 1 ≤ 14 by omega) hd hd (fun o ho => ⟨(hD o ho).1, (hD o ho).2.congr (fun i hi => ka i (by omega)) (fun _ _ => rfl)⟩) a6 a13 b1 b3 g33 h29
    have k1 : ∀ i, i ≠ 36 → i ≠ 59 → σ1.1 i = σ.1 i := fun i h1 h2 => by rw [c3 i h1 h2, ka i h2]
    have t1 : TX σ σ1 := ⟨fun i h1 h2 h3 => k1 i (by omega) (by omega), by rw [c5, ka2]⟩
    rw [c1, qcall_s, c2, qcall_s]
    obtain ⟨r1, σ2, μx, d1, -, d3, d4, -, -, -, -⟩ := x1 σ1 μ1 t1 c6.mx V
    obtain ⟨r0, σ3, μ2, f1, f2, f3, f4, f5, f6, f7, f8⟩ := x0 σ2 μ1 (t1.trans (TX.stack d3 d4)) c6.mx (V.keep (d3 59 (by omega)) rfl)
    obtain ⟨r1', σ2', μ3, g1, g2, g3, g4, g5, g6, g7, g8⟩ := x1 σ1 μ2 t1 (c6.mx.trans (MX.pile f5)) (V.keep rfl (f5 38 (by omega)))
    rw [d1] at g1
    obtain ⟨rfl, rfl⟩ : r1 = r1' ∧ σ2 = σ2' := by cases g1; exact ⟨rfl, rfl⟩
    rw [show fX3_firstThatHolds σ1 (σ.2.2 l) 1 = some (r1, σ2) from d1, qcall_s, show fX6_ruleOf μ1 (nI l) 0 = some (r0, μ2) from f2, qcall_s]
    have k2 : ∀ i, i ≠ 36 → i ≠ 59 → i ≠ 61 + 5 * σ.2.2 l + 4 → σ2.1 i = σ.1 i := fun i h1 h2 h3 => by rw [d3 i h3, k1 i h1 h2]
    have k3 : ∀ i, i ≠ 36 → i ≠ 59 → i ≠ 61 + 5 * σ.2.2 l + 4 → σ3.1 i = σ.1 i := fun i h1 h2 h3 => by rw [f3 i h3, k2 i h1 h2 h3]
    have p2 : ∀ i, i ≠ 8 → σ2.1 36 i = σ.1 36 i := fun i hi => by rw [d3 36 (by omega), c4 i hi, ka 36 (by omega)]
    have p3 : ∀ i, i ≠ 8 → σ3.1 36 i = σ.1 36 i := fun i hi => by rw [f3 36 (by omega), p2 i hi]
    have s2 : σ2.2 = σ.2 := d4.trans (c5.trans ka2)
    have s3 : σ3.2 = σ.2 := f4.trans s2
    have m2 : ∀ i, i ≠ 38 → i ≠ 39 → i ≠ 40 → μ2.1 i = μ.1 i := fun i h1 h2 h3 => by rw [f5 i h2, c6.1 i h1 h3]
    have m3 : ∀ i, i ≠ 38 → i ≠ 39 → i ≠ 40 → μ3.1 i = μ.1 i := fun i h1 h2 h3 => by rw [g5 i h2, m2 i h1 h2 h3]
    have n2 : μ2.2 = μ.2 := f6.trans c6.2
    have n3 : μ3.2 = μ.2 := g6.trans n2
    have fin : ∀ (σz μz : St), (∀ i, i ≠ 36 → i ≠ 59 → i ≠ 61 + 5 * σ.2.2 l + 4 → σz.1 i = σ.1 i) → (∀ i, i ≠ 8 → σz.1 36 i = σ.1 36 i) → σz.2 = σ.2 → (∀ i, i ≠ 38 → i ≠ 39 → i ≠ 40 → μz.1 i = μ.1 i) → μz.2 = μ.2 → (∃ m' b', b' 0 = b 0 ∧ Begun σz μz l (d + 1) m' b') ∧ KeepC1 σ σz l ∧ KeepM1 μ μz l := fun σz μz z1 z2 z3 z4 z5 =>
      ⟨⟨m, b, rfl, (B.congr (fun i hi => z1 i (by omega) (by omega) (by omega)) (fun i h1 h2 => z4 i (by omega) (by omega) (by omega))).later⟩, ⟨fun i h1 h2 h3 h4 h5 h6 h7 => z1 i h1 h3 h7, z2, fun o _ => by rw [z1 58 (by omega) (by omega) (by omega)], z3⟩, ⟨fun i hi => z4 i (by omega) (by omega) (by omega), fun o _ => by rw [z4 32 (by omega) (by omega) (by omega)], fun i h1 h2 o k _ _ => by rw [z4 i (by omega) (by omega) (by omega)], z5⟩⟩
    by_cases q1 : r1 = -1
    · rw [if_pos q1, show fX3_firstThatHolds σ2 (σ.2.2 l) 0 = some (r0, σ3) from f1, qcall_s]
      by_cases q2 : r0 = -1
      · rw [if_pos q2, if_pos q2]
        exact ⟨σ3, μ2, rfl, rfl, fin σ3 μ2 k3 p3 s3 m2 n2⟩
      · rw [if_neg q2, if_neg q2, show fX6_ruleOf μ2 (nI l) 1 = some (r1, μ3) from g2, qcall_s, if_pos q1]
        obtain ⟨kk, hkk, hr0⟩ := f8.resolve_left q2
        have B3 : Begun σ3 μ3 l d m b := B.congr (fun i hi => k3 i (by omega) (by omega) (by omega)) (fun i h1 h2 => m3 i (by omega) (by omega) (by omega))
        obtain ⟨σ4, μ4, y1, y2, y3, y4, y5⟩ := begin_R (r := r0) B3 (by omega) hd (by omega) (fun q => absurd q (by rw [hr0]; exact nI_neg2 (by omega)))
        rw [y1, qcall_s, y2, qcall_s]
        refine ⟨σ4, μ4, rfl, rfl, ⟨m + 1, _, ?_, y3⟩, ⟨fun i h1 h2 h3 h4 h5 h6 h7 => ?_, fun i hi => ?_, fun o ho => ?_, y4.2.2.trans s3⟩, ⟨fun i hi => ?_, fun o ho => ?_, fun i h1 h2 o k ho hk => ?_, y5.2.2.2.trans n3⟩⟩
        · show (if 0 = m + 1 then d else b 0) = b 0
          rw [if_neg (by omega)]
        · rw [y4.1 i h2 h4 h5 h6, k3 i h1 h3 h7]
        · rw [y4.1 36 (by omega) (by omega) (by omega) (by omega), p3 i hi]
        · rw [y4.2.1 o ho, k3 58 (by omega) (by omega) (by omega)]
        · rw [y5.1 i (by omega), m3 i (by omega) (by omega) (by omega)]
        · rw [y5.2.1 o ho, m3 32 (by omega) (by omega) (by omega)]
        · rw [y5.2.2.1 i h1 h2 o k ho hk, m3 i (by omega) (by omega) (by omega)]
    · rw [if_neg q1]
      by_cases q2 : r0 = -1
      · rw [if_pos q2]
        exact ⟨σ2, μ2, rfl, rfl, fin σ2 μ2 k2 p2 s2 m2 n2⟩
      · rw [if_neg q2, show fX6_ruleOf μ2 (nI l) 1 = some (r1, μ3) from g2, qcall_s, if_neg q1]
        exact ⟨σ2, μ3, rfl, rfl, fin σ2 μ3 k2 p2 s2 m3 n3⟩
