-- ===== turn, unlike, changed =====
theorem evof_is {σ μ : St} {l t day m : Nat} {b : Nat → Nat} (B : Begun σ μ l 400 m b) (hl : l < 6) (ht : t < 15) (hd1 : 1 ≤ day) (hd2 : day ≤ 30) : fX1_eveningOf σ (nI l) (nI t) (nI day) = some ((by classical exact if t ≤ m ∧ b t + day - 1 < 400 ∧ (t < m → b t + day - 1 < b (t + 1)) then nI (b t + day - 1) else -1), σ) := by
  have hle := fun (k : Nat) (q : k ≤ m) => B.le q
  obtain ⟨b1, b2, b3, b4, b5, b6, b7, b8, b9⟩ := B
  unfold fX1_eveningOf
  simp only [qix_nI hl (show 6 ≤ 2 ^ 31 by omega), qix_nI ht (show 15 ≤ 2 ^ 31 by omega), nI_clamp (show l < 2 ^ 31 by omega), nI_clamp (show t < 2 ^ 31 by omega), qlet]
  by_cases h : t ≤ m
  · obtain ⟨y1, -⟩ := b6 t h
    have h400 := hle t h
    obtain ⟨x, hx⟩ : ∃ x, b t + day = x + 1 := ⟨b t + day - 1, by omega⟩
    have ex : nI (b t) + nI day - 1 = nI (b t + day - 1) := by rw [nI_add, hx, nI_m1]; rfl
    rw [y1, if_neg (nI_neg1 (by omega)), ex, evC, qcall_s]
    by_cases q : b t + day - 1 < 400
    · rw [b01_t ⟨_, q, rfl⟩, if10, b2]
      by_cases q2 : m ≤ t
      · rw [if_pos (nI_le q2 (by omega)), if_pos trivial, if_pos ⟨h, q, fun z => absurd z (by omega)⟩]
      · rw [if_neg (nI_ge (by omega) (by omega)), nI_1, qix_nI (show t + 1 < 15 by omega) (by omega), nI_clamp (show t + 1 < 2 ^ 31 by omega), (b6 (t + 1) (by omega)).1]
        have h401 := hle (t + 1) (by omega)
        by_cases q3 : b t + day - 1 < b (t + 1)
        · rw [if_pos (nI_lt q3 (by omega)), if_pos trivial, if_pos ⟨h, q, fun _ => q3⟩]
        · rw [if_neg (nI_nlt (by omega) (by omega)), if10, if_neg (fun z => q3 (z.2.2 (by omega)))]
    · rw [b01_f (fun z => by
        obtain ⟨k, hk, e⟩ := z
        have := (nI_eq (by omega) (by omega)).mp e
        omega), if00, if_neg (fun z => q z.2.1)]
  · rw [(b8 t (by omega) ht).1, if_pos rfl, if_neg (fun z => h z.1)]
theorem evof_yes {σ μ : St} {l t day m : Nat} {b : Nat → Nat} (B : Begun σ μ l 400 m b) (hl : l < 6) (ht : t < 15) (hd1 : 1 ≤ day) (hd2 : day ≤ 30) (h : t ≤ m ∧ b t + day - 1 < 400 ∧ (t < m → b t + day - 1 < b (t + 1))) : fX1_eveningOf σ (nI l) (nI t) (nI day) = some (nI (b t + day - 1), σ) := by
  rw [evof_is B hl ht hd1 hd2, if_pos h]
theorem evof_no {σ μ : St} {l t day m : Nat} {b : Nat → Nat} (B : Begun σ μ l 400 m b) (hl : l < 6) (ht : t < 15) (hd1 : 1 ≤ day) (hd2 : day ≤ 30) (h : ¬ (t ≤ m ∧ b t + day - 1 < 400 ∧ (t < m → b t + day - 1 < b (t + 1)))) : fX1_eveningOf σ (nI l) (nI t) (nI day) = some (-1, σ) := by
  rw [evof_is B hl ht hd1 hd2, if_neg h]
theorem turnC_no {σ : St} {la fn : Nat} (h7 : σ.1 2 7 = nI la) (hla : la ≤ 6) (hf : σ.1 21 7 = nI fn) (hfn : fn ≤ 300) {a1 a2 a3 a4 a5 : Int32} (h : ¬ (inN la a1 ∧ inN 15 a2 ∧ inN (fn + 1) a5 ∧ inN la a4 ∧ ¬ a3 < 1 ∧ a3 ≤ 30)) : fX5_turn σ a1 a2 a3 a4 a5 = some (-1, σ) := by
  unfold fX5_turn
  rw [show fX5_isAsked σ a1 a2 0 a5 = _ from asked_is (lo := 0) h7 hla hf hfn (by omega) a1 a2 a5, qcall_s]
  simp only [qlet]
  by_cases c1 : inN la a1 ∧ (∃ m, 0 ≤ m ∧ m < 15 ∧ a2 = nI m) ∧ inN (fn + 1) a5
  · rw [b01_t c1, if10, isLandC h7 hla, qcall_s]
    by_cases c2 : inN la a4
    · rw [b01_t c2, if10]
      by_cases c3 : a3 < 1
      · rw [if_pos c3]
      · rw [if_neg c3]
        obtain ⟨m, -, hm, e⟩ := c1.2.1
        rw [if_neg (fun q => h ⟨c1.1, ⟨m, hm, e⟩, c1.2.2, c2, c3, q⟩)]
    · rw [b01_f c2, if00]
  · rw [b01_f c1, if00]
theorem turnM_no {μ : St} {la fn : Nat} (h7 : μ.1 0 37 = nI la) (hla : la ≤ 6) (hf : μ.1 0 45 = nI fn) (hfn : fn ≤ 300) {a1 a2 a3 a4 a5 : Int32} (h : ¬ (inN la a1 ∧ inN 15 a2 ∧ inN (fn + 1) a5 ∧ inN la a4 ∧ ¬ a3 < 1 ∧ a3 ≤ 30)) : fX6_turn μ a1 a2 a3 a4 a5 = some (-1, μ) := by
  unfold fX6_turn
  rw [isLandM h7 hla, qcall_s]
  simp only [qlet]
  by_cases c1 : inN la a1
  · rw [b01_t c1, if10, isLandM h7 hla, qcall_s]
    by_cases c2 : inN la a4
    · rw [b01_t c2, if10, monM, qcall_s]
      by_cases c3 : inN 15 a2
      · rw [b01_t c3, if10]
        by_cases c4 : a3 < 1
        · rw [if_pos c4]
        · rw [if_neg c4]
          by_cases c5 : (30 : Int32) < a3
          · rw [if_pos c5]
          · rw [if_neg c5, knownM hf hfn, qcall_s, b01_f (fun q => h ⟨c1, c3, q, c2, c4, by rw [fa_lt] at c5; rw [fa_le]; omega⟩), if00]
      · rw [b01_f c3, if00]
    · rw [b01_f c2, if00]
  · rw [b01_f c1, if00]
theorem p_turn {σ μ : St} {mo la wn fn : Nat} (I : Inv σ μ mo la wn fn) (a1 a2 a3 a4 a5 : Int32) : ∃ r σ' μ', fX5_turn σ a1 a2 a3 a4 a5 = some (r, σ') ∧ fX6_turn μ a1 a2 a3 a4 a5 = some (r, μ') ∧ Inv σ' μ' mo la wn fn := by
  obtain ⟨W, F, -⟩ := id I
  have hla := W.2.1
  have hfn := F.2.1
  by_cases h : inN la a1 ∧ inN 15 a2 ∧ inN (fn + 1) a5 ∧ inN la a4 ∧ ¬ a3 < 1 ∧ a3 ≤ 30
  · obtain ⟨h1, h2, h3, h4, h5, h6⟩ := h
    unfold fX5_turn fX6_turn
    obtain ⟨t, ht, e2⟩ := id h2
    rw [show fX5_isAsked σ a1 a2 0 a5 = _ from asked_is (lo := 0) W.2.2.2.2.1 hla F.2.2.2.2.1 hfn (by omega) a1 a2 a5, isLandM W.2.2.2.2.2.1 hla, qcall_s, qcall_s, b01_t ⟨h1, ⟨t, by omega, ht, e2⟩, h3⟩, b01_t h1]
    simp only [qlet, if10]
    rw [isLandC W.2.2.2.2.1 hla, isLandM W.2.2.2.2.2.1 hla, qcall_s, qcall_s, b01_t h4]
    simp only [if10]
    rw [monM, qcall_s, b01_t h2]
    simp only [if10]
    rw [if_neg h5, if_neg h5, if_pos h6, if_neg (show ¬ (30 : Int32) < a3 by rw [fa_lt]; rw [fa_le] at h6; omega), knownM F.2.2.2.2.2.1 hfn, qcall_s, b01_t h3]
    simp only [if10]
    obtain ⟨day, hd1, hd2, rfl⟩ : ∃ day, 1 ≤ day ∧ day ≤ 30 ∧ a3 = nI day := by
      have e1 : (1 : Int32).toInt = 1 := by decide
      have e30 : (30 : Int32).toInt = 30 := by decide
      rw [fa_lt, e1] at h5
      rw [fa_le, e30] at h6
      exact ⟨a3.toInt.toNat, by omega, by omega, (fa_eq _ _).mpr (by rw [nI_toInt (by omega)]; omega)⟩
    obtain ⟨l, hl, rfl⟩ := h1
    obtain ⟨n, hn, rfl⟩ := h3
    obtain ⟨l4, hl4, rfl⟩ := h4
    subst e2
    obtain ⟨σ', μ', c1, c2, c3, c4, c5, -⟩ := I.stand (n := n) (by omega)
    obtain ⟨m, b, B⟩ := (c5 l hl).done
    rw [c1, c2, qcall_s, qcall_s]
    have yes := evof_yes B (show l < 6 by omega) ht hd1 hd2
    have no := evof_no B (show l < 6 by omega) ht hd1 hd2
    have hle := fun (k : Nat) (q : k ≤ m) => B.le q
    obtain ⟨b1, b2, b3, b4, b5, b6, b7, b8, b9⟩ := B
    have e16 : (16 : Int32) * nI l + nI t = nI (16 * l + t) := by rw [show (16 : Int32) = nI 16 from rfl, pk_mul, nI_add]
    rw [qix_nI (show l < 6 by omega) (by omega), nI_clamp (show l < 2 ^ 31 by omega), b3, e16, nI_1]
    by_cases q1 : t ≤ m
    · have h400 := hle t q1
      obtain ⟨x, hx⟩ : ∃ x, b t + day = x + 1 := ⟨b t + day - 1, by omega⟩
      have ex : nI (b t) + nI day - 1 = nI (b t + day - 1) := by rw [nI_add, hx, nI_m1]; rfl
      rw [if_pos (nI_lt (show t < m + 1 by omega) (by omega)), qix_nI (show 16 * l + t < 96 by omega) (by omega), nI_clamp (show 16 * l + t < 2 ^ 31 by omega), (b6 t q1).2.1, ex]
      by_cases q2 : b t + day - 1 < 400
      · rw [if_neg (show ¬ (400 : Int32) ≤ nI (b t + day - 1) from nI_ge (b := 400) q2 (by omega)), qix_nI (show l < 6 by omega) (by omega)]
        obtain ⟨r, d1, d2⟩ := date_both (show l4 < 6 by omega) q2 (c5 l4 hl4)
        rw [d2, qcall_s]
        by_cases q3 : m ≤ t
        · rw [yes ⟨q1, q2, fun z => absurd z (by omega)⟩, qcall_s, if_neg (nI_neg1 (by omega)), d1, qcall_s, if_pos (nI_le (show m + 1 ≤ t + 1 by omega) (by omega))]
          exact ⟨r, σ', μ', rfl, rfl, c3⟩
        · have h401 := hle (t + 1) (by omega)
          rw [if_neg (nI_ge (show t + 1 < m + 1 by omega) (by omega)), nI_1, qix_nI (show 16 * l + t + 1 < 96 by omega) (by omega), nI_clamp (show 16 * l + t + 1 < 2 ^ 31 by omega), show 16 * l + t + 1 = 16 * l + (t + 1) by omega, (b6 (t + 1) (by omega)).2.1]
          by_cases q4 : b t + day - 1 < b (t + 1)
          · rw [yes ⟨q1, q2, fun _ => q4⟩, qcall_s, if_neg (nI_neg1 (by omega)), d1, qcall_s, if_pos (nI_lt q4 (by omega))]
            exact ⟨r, σ', μ', rfl, rfl, c3⟩
          · rw [no (fun z => q4 (z.2.2 (by omega))), qcall_s, if_pos rfl, if_neg (nI_nlt (by omega) (by omega))]
            exact ⟨_, σ', μ', rfl, rfl, c3⟩
      · rw [no (fun z => q2 z.2.1), qcall_s, if_pos rfl, if_pos (show (400 : Int32) ≤ nI (b t + day - 1) from nI_le (a := 400) (by omega) (by omega))]
        exact ⟨_, σ', μ', rfl, rfl, c3⟩
    · rw [no (fun z => q1 z.1), qcall_s, if_pos rfl, if_neg (nI_nlt (by omega) (by omega))]
      exact ⟨_, σ', μ', rfl, rfl, c3⟩
  · rw [turnC_no W.2.2.2.2.1 hla F.2.2.2.2.1 hfn h, turnM_no W.2.2.2.2.2.1 hla F.2.2.2.2.2.1 hfn h]
    exact ⟨_, σ, μ, rfl, rfl, I⟩
