-- ===== an evening in a land =====
theorem KeepCl.c1 {σ σ' : St} {l : Nat} (h : KeepCl σ σ' l) (hl : l < 6) : KeepC1 σ σ' l := ⟨fun i _ h2 _ h4 h5 h6 _ => h.1 i h2 h4 h5 h6, fun i _ => by rw [h.1 36 (by omega) (by omega) (by omega) (by omega)], h.2.1, h.2.2⟩
theorem KeepMl.m1 {μ μ' : St} {l : Nat} (h : KeepMl μ μ' l) : KeepM1 μ μ' l := ⟨fun i hi => h.1 i (by omega), h.2.1, h.2.2.1, h.2.2.2⟩
theorem KeepC1.rf (σ : St) (l : Nat) : KeepC1 σ σ l := ⟨fun _ _ _ _ _ _ _ _ => rfl, fun _ _ => rfl, fun _ _ => rfl, rfl⟩
theorem KeepM1.rf (μ : St) (l : Nat) : KeepM1 μ μ l := ⟨fun _ _ => rfl, fun _ _ => rfl, fun _ _ _ _ _ _ _ => rfl, rfl⟩
theorem wait_R {σ μ : St} {l d n fe : Nat} (hl : l < 6) (hd : d < 400) (hfe : fe < 400) (h24 : μ.1 24 l = nI fe) (hle : d ≤ fe) (w : Waits σ μ l fe) : ∃ μ', fX1_passEvening σ (nI l) (nI d) = some (0, σ) ∧ fX6_evening μ (nI l) (nI d) (nI n) = some (0, μ') ∧ LandR σ μ' l (d + 1) ∧ KeepM1 μ μ' l := by
  obtain ⟨w1, w2, w3, w4, w5⟩ := id w
  have hC : fX1_passEvening σ (nI l) (nI d) = some (0, σ) := by
    unfold fX1_passEvening
    simp only [qix_nI hl (show 6 ≤ 2 ^ 31 by omega), nI_clamp (show l < 2 ^ 31 by omega), qlet, w2, show ∀ b : Option (Int32 × St), qix (0 : Int32) 15 b = b from fun b => qix_nI (k := 0) (by omega) (by omega), cl_0, w3]
    have hx : nI d - nI fe < 1 := by
      by_cases q : d = fe
      · subst q
        rw [Int32.sub_self]
        decide
      · have := pk_sneg (a := d) (b := fe) (by omega) (by omega)
        rw [fa_lt] at this ⊢
        have e0 : (0 : Int32).toInt = 0 := by decide
        have e1 : (1 : Int32).toInt = 1 := by decide
        omega
    generalize nI d - nI fe = x at hx ⊢
    rw [if_neg (fun q => by rw [q] at hx; exact absurd hx (by decide)), if_neg (fun q => by rw [q] at hx; exact absurd hx (by decide)), if_pos hx]
  unfold fX6_evening
  simp only [qix_nI hl (show 6 ≤ 2 ^ 31 by omega), nI_clamp (show l < 2 ^ 31 by omega), qlet, w1, h24]
  rw [if_pos trivial]
  by_cases q : d = fe
  · subst q
    have h32 : μ.1 32 l = nI 0 := w1
    rw [if_pos rfl, fX6_adds_is hl (by omega) h32, qcall_s]
    refine ⟨_, hC, rfl, ⟨d, hd, ?_, Or.inr ⟨by omega, 0, fun _ => d, rfl, by omega, w2, ?_, fun k hk => absurd hk (by omega), Nat.lt_succ_self d, fun k hk => ?_, fun k h1 hk => absurd hk (by omega), fun k h1 h2 => w5 k h1 h2, fun z => ?_⟩⟩, (adds_keep (by omega)).m1⟩
    · rw [(adds_keep (μ := μ) (l := l) (m := 0) (by omega)).1 24 (by omega)]
      exact h24
    · rw [sI_s, upd_s]
    · have ek : k = 0 := by omega
      subst ek
      obtain ⟨g1, g2, g3, g4, g5⟩ := adds_get (μ := μ) (x := 16 * l + 0) (l := l) (d := nI d) (r := -1) (v := (if (-1 : Int32) = -2 then 1 else 0)) (w := nI (0 + 1)) (16 * l + 0)
      rw [g1, g2, g4, g5, upd_s, upd_s, upd_s, upd_s]
      exact ⟨w3, rfl, rfl, w4, rfl⟩
    · obtain ⟨g1, g2, g3, g4, g5⟩ := adds_get (μ := μ) (x := 16 * l + 0) (l := l) (d := nI d) (r := -1) (v := (if (-1 : Int32) = -2 then 1 else 0)) (w := nI (0 + 1)) (16 * l + 0)
      rw [g2, upd_s] at z
      exact absurd z (by decide)
  · rw [if_neg (fun z => q ((nI_eq (by omega) (by omega)).mp z))]
    exact ⟨μ, hC, rfl, ⟨fe, hfe, h24, Or.inl ⟨by omega, w⟩⟩, KeepM1.rf μ l⟩
theorem evening_R {σ μ : St} {mo la wn fn n l d : Nat} {E : Nat → Nat} (W : InvW σ μ mo la) (F : InvF σ μ la wn fn) (J : Judged σ μ mo n) (hn : n ≤ fn) (hl : l < la) (hd : d < 400) (hD : ∀ o, o < la → E o ≤ 400 ∧ LandR σ μ o (E o)) (hE : E l = d) (X : RuleR σ μ l) : ∃ σ' μ', fX1_passEvening σ (nI l) (nI d) = some (0, σ') ∧ fX6_evening μ (nI l) (nI d) (nI n) = some (0, μ') ∧ LandR σ' μ' l (d + 1) ∧ KeepC1 σ σ' l ∧ KeepM1 μ μ' l := by
  have hla := W.2.1
  obtain ⟨-, fe, hfe, h24, r2⟩ := hD l hl
  rw [hE] at r2
  rcases r2 with ⟨hle, w⟩ | ⟨hlt, m, b, hb, B⟩
  · obtain ⟨μ', a1, a2, a3, a4⟩ := wait_R (n := n) (by omega) hd hfe h24 hle w
    exact ⟨σ, μ', a1, a2, a3, KeepC1.rf σ l, a4⟩
  · have b1 := B.1
    have b2 := B.2.1
    have b3 := B.2.2.1
    have b5 := B.2.2.2.2.1
    have b9 := B.2.2.2.2.2.2.2.2
    obtain ⟨g38, g33, g36, g45, g37⟩ := B.2.2.2.2.2.1 m (Nat.le_refl m)
    obtain ⟨days, hdays⟩ : ∃ days, b m + days = d := ⟨d - b m, by omega⟩
    have edays : nI d - nI (b m) = nI days := by rw [pk_sub (by omega), show d - b m = days by omega]
    have e16 : (16 : Int32) * nI l + nI (m + 1) - 1 = nI (16 * l + m) := by rw [show (16 : Int32) = nI 16 from rfl, pk_mul, nI_add, show 16 * l + (m + 1) = (16 * l + m) + 1 by omega, nI_m1]
    have n0 : ¬ nI (m + 1) = 0 := nI_ne0 (by omega) (by omega)
    unfold fX1_passEvening fX6_evening
    simp only [qix_nI (show l < 6 by omega) (show 6 ≤ 2 ^ 31 by omega), nI_clamp (show l < 2 ^ 31 by omega), qlet, b2, b3, qix_nI (show m < 15 by omega) (show 15 ≤ 2 ^ 31 by omega), nI_clamp (show m < 2 ^ 31 by omega), g38, edays, e16, qix_nI (show 16 * l + m < 96 by omega) (show 96 ≤ 2 ^ 31 by omega), nI_clamp (show 16 * l + m < 2 ^ 31 by omega), g33, if_neg n0]
    have lift : ∀ (σ' μ' : St), (∃ m' b', b' 0 = b 0 ∧ Begun σ' μ' l (d + 1) m' b') → μ'.1 24 = μ.1 24 → LandR σ' μ' l (d + 1) := fun σ' μ' ⟨m', b', z1, z2⟩ z3 => ⟨fe, hfe, by rw [z3]; exact h24, Or.inr ⟨by omega, m', b', by rw [z1]; exact hb, z2⟩⟩
    have same : LandR σ μ l (d + 1) := lift σ μ ⟨m, b, rfl, B.later⟩ rfl
    by_cases q30 : days = 30
    · have c30 : nI days = 30 := by rw [q30]; rfl
      rw [if_pos c30, if_pos c30]
      obtain ⟨σ', μ', a1, a2, a3, a4, a5⟩ := begin_R (r := -2) B (by omega) hd (by omega) (fun _ => by omega)
      rw [a1, qcall_s, a2, qcall_s]
      refine ⟨σ', μ', rfl, rfl, lift σ' μ' ⟨m + 1, _, ?_, a3⟩ (a5.1 24 (by omega)), a4.c1 (by omega), a5.m1⟩
      show (if 0 = m + 1 then d else b 0) = b 0
      rw [if_neg (by omega)]
    · have c30 : ¬ nI days = 30 := fun z => q30 ((nI_eq (a := days) (b := 30) (by omega) (by omega)).mp z)
      rw [if_neg c30, if_neg c30]
      by_cases q29 : days = 29
      · have c29 : nI days = 29 := by rw [q29]; rfl
        rw [if_pos c29, if_pos c29]
        obtain ⟨σ', μ', a1, a2, a3, a4, a5⟩ := try29 W F J hn hl hd hD X B (by omega)
        rw [a1, qcall_s]
        unfold ev29 at a2
        rw [nI_clamp (show l < 2 ^ 31 by omega), b3] at a2
        exact ⟨σ', μ', rfl, a2, lift σ' μ' a3 (a5.1 24 (by omega)), a4, a5⟩
      · have c29 : ¬ nI days = 29 := fun z => q29 ((nI_eq (a := days) (b := 29) (by omega) (by omega)).mp z)
        rw [if_neg c29, if_neg c29]
        have c1 : ¬ nI days < 1 := nI_nlt (a := days) (b := 1) (by omega) (by omega)
        rw [if_neg c1, if_neg c1]
        by_cases q10 : 10 < days
        · have c10 : (10 : Int32) < nI days := nI_lt (a := 10) q10 (by omega)
          rw [if_pos c10, if_pos c10]
          exact ⟨σ, μ, rfl, rfl, same, KeepC1.rf σ l, KeepM1.rf μ l⟩
        · have c10 : ¬ (10 : Int32) < nI days := nI_nlt (a := 10) (b := days) (by omega) (by omega)
          rw [if_neg c10, if_neg c10, g45, g37]
          by_cases q2 : μ.1 34 (16 * l + m) = -2
          · obtain ⟨hm1, h30⟩ := b9 q2
            rw [if_pos q2, if_pos q2, if_neg (by decide)]
            obtain ⟨σ', μ', a1, a2, a3, a4, a5⟩ := tryBk W F J hn hl hd hD X B hdays hm1 h30
            rw [a1, qcall_s]
            unfold evBk at a2
            rw [nI_clamp (show l < 2 ^ 31 by omega), b3, g33] at a2
            rw [nar0]
            exact ⟨σ', μ', rfl, a2, lift σ' μ' a3 (a5.1 24 (by omega)), a4, a5⟩
          · rw [if_neg q2, if_neg q2, if_pos rfl]
            exact ⟨σ, μ, rfl, rfl, same, KeepC1.rf σ l, KeepM1.rf μ l⟩
