-- ===== the calls that ask: age, light, verdict, worth, begins, by =====
def Same (f g : St → Option (Int32 × St)) (mo la wn fn : Nat) : Prop := ∀ σ μ, Inv σ μ mo la wn fn → ∃ r σ' μ', f σ = some (r, σ') ∧ g μ = some (r, μ') ∧ Inv σ' μ' mo la wn fn
theorem p_age {σ μ : St} {mo la wn fn : Nat} (I : Inv σ μ mo la wn fn) (a1 a2 : Int32) : ∃ r, fX5_age σ a1 a2 = some (r, σ) ∧ fX6_age μ a1 a2 = some (r, μ) := by
  obtain ⟨W, -⟩ := I
  have hla := W.2.1
  unfold fX5_age fX6_age
  rw [isLandC W.2.2.2.2.1 hla, isLandM W.2.2.2.2.2.1 hla, qcall_s, qcall_s]
  simp only [qlet]
  by_cases h1 : inN la a1
  · rw [b01_t h1, if10, if10, evC, evM, qcall_s, qcall_s]
    by_cases h2 : inN 400 a2
    · rw [b01_t h2, if10, if10]
      obtain ⟨l, hl, rfl⟩ := h1
      obtain ⟨d, hd, rfl⟩ := h2
      rw [fX4_ageOn_is (by omega) W.2.2.1 W.1, fX6_ageOf_is (by omega) W.2.2.2.1 W.1, qcall_s, qcall_s, age_is W hl]
      exact ⟨_, rfl, rfl⟩
    · rw [b01_f h2, if00, if00]
      exact ⟨_, rfl, rfl⟩
  · rw [b01_f h1, if00, if00]
    exact ⟨_, rfl, rfl⟩
theorem p_light {σ μ : St} {mo la wn fn : Nat} (I : Inv σ μ mo la wn fn) (a1 a2 : Int32) : ∃ r, fX5_light σ a1 a2 = some (r, σ) ∧ fX6_light μ a1 a2 = some (r, μ) := by
  obtain ⟨W, -⟩ := I
  have hla := W.2.1
  unfold fX5_light fX6_light
  rw [isLandC W.2.2.2.2.1 hla, isLandM W.2.2.2.2.2.1 hla, qcall_s, qcall_s]
  simp only [qlet]
  by_cases h1 : inN la a1
  · rw [b01_t h1, if10, if10, evC, evM, qcall_s, qcall_s]
    by_cases h2 : inN 400 a2
    · rw [b01_t h2, if10, if10]
      obtain ⟨l, hl, rfl⟩ := h1
      obtain ⟨d, hd, rfl⟩ := h2
      rw [fX4_lightOn_is W hl hd, fX6_lightOf_is W hl hd, qcall_s, qcall_s]
      exact ⟨_, rfl, rfl⟩
    · rw [b01_f h2, if00, if00]
      exact ⟨_, rfl, rfl⟩
  · rw [b01_f h1, if00, if00]
    exact ⟨_, rfl, rfl⟩
theorem p_verdict {σ μ : St} {mo la wn fn : Nat} (I : Inv σ μ mo la wn fn) (a1 a2 : Int32) : ∃ r σ', fX5_verdict σ a1 a2 = some (r, σ') ∧ fX6_verdict μ a1 a2 = some (r, μ) ∧ Inv σ' μ mo la wn fn := by
  obtain ⟨W, F, -⟩ := id I
  have hla := W.2.1
  have hfn := F.2.1
  unfold fX5_verdict fX6_verdict
  rw [knownC F.2.2.2.2.1 hfn, knownM F.2.2.2.2.2.1 hfn, qcall_s, qcall_s]
  simp only [qlet]
  by_cases h1 : inN (fn + 1) a2
  · rw [b01_t h1, if10, if10]
    obtain ⟨n, hn, rfl⟩ := h1
    by_cases h2 : a1 < 0
    · rw [if_pos h2, if_pos h2]
      exact ⟨_, σ, rfl, rfl, I⟩
    · rw [if_neg h2, if_neg h2]
      obtain ⟨k, hk, rfl⟩ := nI_of h2
      by_cases h3 : k < n
      · rw [if_pos (nI_lt h3 (by omega)), if_neg (nI_ge h3 (by omega))]
        obtain ⟨σ', c1, c2, c3⟩ := I.judge (n := n) (by omega)
        rw [c1, qcall_s, qix_nI (show k < 300 by omega) (by omega), nI_clamp (by omega), c3.2 k h3, qix_nI (show k < 300 by omega) (by omega)]
        unfold judS
        by_cases h4 : μ.1 29 k = 0
        · rw [if_pos h4, if_pos h4, fX6_verdictOf_is W F h3 (by omega) h4, qcall_s]
          exact ⟨_, σ', rfl, rfl, c2⟩
        · rw [if_neg h4, if_neg h4]
          exact ⟨_, σ', rfl, rfl, c2⟩
      · rw [if_neg (nI_nlt (by omega) (by omega)), if_pos (nI_le (by omega) (by omega))]
        exact ⟨_, σ, rfl, rfl, I⟩
  · rw [b01_f h1, if00, if00]
    exact ⟨_, σ, rfl, rfl, I⟩
theorem p_worth {σ μ : St} {mo la wn fn : Nat} (I : Inv σ μ mo la wn fn) (a1 a2 a3 : Int32) : ∃ r σ', fX5_worth σ a1 a2 a3 = some (r, σ') ∧ fX6_worth μ a1 a2 a3 = some (r, μ) ∧ Inv σ' μ mo la wn fn := by
  obtain ⟨W, F, -⟩ := id I
  have hla := W.2.1
  have hwn := F.1
  have hfn := F.2.1
  unfold fX5_worth fX6_worth
  rw [knownC F.2.2.2.2.1 hfn, isWitM F.2.2.2.1 hwn, qcall_s, qcall_s]
  simp only [qlet]
  by_cases h3 : inN (fn + 1) a3
  · rw [b01_t h3, if10, isWitC F.2.2.1 hwn, qcall_s]
    by_cases h1 : inN wn a1
    · rw [b01_t h1, if10, if10, evC, evM, qcall_s, qcall_s]
      by_cases h2 : inN 400 a2
      · rw [b01_t h2, if10, if10, knownM F.2.2.2.2.2.1 hfn, qcall_s, b01_t h3, if10]
        obtain ⟨w, hw, rfl⟩ := h1
        obtain ⟨d, hd, rfl⟩ := h2
        obtain ⟨n, hn, rfl⟩ := h3
        obtain ⟨σ', c1, c2, c3⟩ := I.judge (n := n) (by omega)
        rw [c1, qcall_s, fX0_worthOn_is c2.2.1 (by omega) c3 (by omega), qcall_s, fX6_worthOf_is W F (by omega), qcall_s]
        exact ⟨_, σ', rfl, rfl, c2⟩
      · rw [b01_f h2, if00, if00]
        exact ⟨_, σ, rfl, rfl, I⟩
    · rw [b01_f h1, if00, if00]
      exact ⟨_, σ, rfl, rfl, I⟩
  · rw [b01_f h3, if00]
    by_cases h1 : inN wn a1
    · rw [b01_t h1, if10, evM, qcall_s]
      by_cases h2 : inN 400 a2
      · rw [b01_t h2, if10, knownM F.2.2.2.2.2.1 hfn, qcall_s, b01_f h3, if00]
        exact ⟨_, σ, rfl, rfl, I⟩
      · rw [b01_f h2, if00]
        exact ⟨_, σ, rfl, rfl, I⟩
    · rw [b01_f h1, if00]
      exact ⟨_, σ, rfl, rfl, I⟩
/-- isAsked: the class's check of a land, a month, a number of facts -/
theorem asked_is {σ : St} {la fn lo : Nat} (h7 : σ.1 2 7 = nI la) (hla : la ≤ 6) (hf : σ.1 21 7 = nI fn) (hfn : fn ≤ 300) (hlo : lo ≤ 1) (a1 a2 a4 : Int32) : fX5_isAsked σ a1 a2 (nI lo) a4 = some (b01 (inN la a1 ∧ (∃ m, lo ≤ m ∧ m < 15 ∧ a2 = nI m) ∧ inN (fn + 1) a4), σ) := by
  unfold fX5_isAsked
  rw [isLandC h7 hla, qcall_s]
  simp only [qlet]
  by_cases h1 : inN la a1
  · rw [b01_t h1, if10]
    have lowI : (nI lo).toInt = (lo : Int) := nI_toInt (by omega)
    have i14 : (14 : Int32).toInt = 14 := by decide
    by_cases h2 : a2 < nI lo
    · rw [if_pos h2, b01_f (fun q => by
        obtain ⟨-, ⟨m, hm, hm2, e⟩, -⟩ := q
        rw [e] at h2
        exact absurd h2 (nI_nlt hm (by omega)))]
      rfl
    · rw [if_neg h2]
      have p2 : (lo : Int) ≤ a2.toInt := by rw [fa_lt, lowI] at h2; omega
      by_cases h3 : (14 : Int32) < a2
      · rw [if_pos h3, b01_f (fun q => by
          obtain ⟨-, ⟨m, hm, hm2, e⟩, -⟩ := q
          rw [e] at h3
          exact absurd h3 (nI_nlt (a := 14) (b := m) (by omega) (by omega)))]
        rfl
      · have p3 : a2.toInt ≤ 14 := by rw [fa_lt, i14] at h3; omega
        rw [if_neg h3, knownC hf hfn, qcall_s]
        have hm : ∃ m, lo ≤ m ∧ m < 15 ∧ a2 = nI m := ⟨a2.toInt.toNat, by omega, by omega, (fa_eq _ _).mpr (by rw [nI_toInt (by omega)]; omega)⟩
        by_cases h4 : inN (fn + 1) a4
        · rw [b01_t h4, if10, b01_t ⟨h1, hm, h4⟩]
          rfl
        · rw [b01_f h4, if00, b01_f (fun q => h4 q.2.2)]
          rfl
  · rw [b01_f h1, if00, b01_f (fun q => h1 q.1)]
    rfl
/-- a month's beginning, as both tell it -/
theorem beg_is {σ μ : St} {l t : Nat} (hl : l < 6) (ht : t < 15) (R : LandR σ μ l 400) : fX6_beginOf μ (nI l) (nI t) = some (σ.1 (38 + l) t, μ) := by
  unfold fX6_beginOf
  rw [qix_nI hl (by omega), nI_clamp (by omega)]
  simp only [qlet]
  obtain ⟨fe, hfe, r1, r2⟩ := R
  rcases r2 with ⟨q, w⟩ | ⟨q, m, b, hb, B⟩
  · exact absurd q (by omega)
  · obtain ⟨b1, b2, b3, b4, b5, b6, b7, b8, b9⟩ := B
    rw [b3]
    by_cases h : m + 1 ≤ t
    · rw [if_pos (nI_le h (by omega)), (b8 t (by omega) ht).1]
    · rw [if_neg (nI_ge (by omega) (by omega)), show (16 : Int32) = nI 16 from rfl, pk_mul, nI_add, qix_nI (by omega) (by omega), nI_clamp (by omega), (b6 t (by omega)).1, (b6 t (by omega)).2.1]
theorem p_begins {σ μ : St} {mo la wn fn : Nat} (I : Inv σ μ mo la wn fn) (a1 a2 a3 : Int32) : ∃ r σ' μ', fX5_begins σ a1 a2 a3 = some (r, σ') ∧ fX6_begins μ a1 a2 a3 = some (r, μ') ∧ Inv σ' μ' mo la wn fn := by
  obtain ⟨W, F, -⟩ := id I
  have hla := W.2.1
  have hfn := F.2.1
  unfold fX5_begins fX6_begins
  rw [show fX5_isAsked σ a1 a2 0 a3 = _ from asked_is (lo := 0) W.2.2.2.2.1 hla F.2.2.2.2.1 hfn (by omega) a1 a2 a3, isLandM W.2.2.2.2.2.1 hla, qcall_s, qcall_s]
  simp only [qlet]
  by_cases h1 : inN la a1
  · rw [b01_t h1, if10, monM, qcall_s]
    by_cases h2 : inN 15 a2
    · rw [b01_t h2, if10, knownM F.2.2.2.2.2.1 hfn, qcall_s]
      by_cases h3 : inN (fn + 1) a3
      · rw [b01_t h3, if10]
        obtain ⟨m, hm, e2⟩ := id h2
        rw [b01_t ⟨h1, ⟨m, by omega, hm, e2⟩, h3⟩, if10]
        obtain ⟨l, hl, rfl⟩ := h1
        obtain ⟨n, hn, rfl⟩ := h3
        subst e2
        obtain ⟨σ', μ', c1, c2, c3, c4, c5, -⟩ := I.stand (n := n) (by omega)
        rw [c1, c2, qcall_s, qcall_s, beg_is (by omega) hm (c5 l hl), qcall_s, qix_nI (show l < 6 by omega) (by omega), qix_nI hm (by omega), nI_clamp (by omega), nI_clamp (by omega)]
        exact ⟨_, σ', μ', rfl, rfl, c3⟩
      · rw [b01_f h3, if00, b01_f (fun q => h3 q.2.2), if00]
        exact ⟨_, σ, μ, rfl, rfl, I⟩
    · rw [b01_f h2, if00, b01_f (fun q => h2 (by obtain ⟨m, -, hm, e⟩ := q.2.1; exact ⟨m, hm, e⟩)), if00]
      exact ⟨_, σ, μ, rfl, rfl, I⟩
  · rw [b01_f h1, if00, b01_f (fun q => h1 q.1), if00]
    exact ⟨_, σ, μ, rfl, rfl, I⟩
theorem p_by {σ μ : St} {mo la wn fn : Nat} (I : Inv σ μ mo la wn fn) (a1 a2 a3 : Int32) : ∃ r σ' μ', fX5_by σ a1 a2 a3 = some (r, σ') ∧ fX6_by μ a1 a2 a3 = some (r, μ') ∧ Inv σ' μ' mo la wn fn := by
  obtain ⟨W, F, -⟩ := id I
  have hla := W.2.1
  have hfn := F.2.1
  unfold fX5_by fX6_by
  rw [show fX5_isAsked σ a1 a2 1 a3 = _ from asked_is (lo := 1) W.2.2.2.2.1 hla F.2.2.2.2.1 hfn (by omega) a1 a2 a3, isLandM W.2.2.2.2.2.1 hla, qcall_s, qcall_s]
  simp only [qlet]
  by_cases h1 : inN la a1
  · rw [b01_t h1, if10, monM, qcall_s]
    by_cases h2 : inN 15 a2
    · rw [b01_t h2, if10]
      obtain ⟨m, hm, rfl⟩ := h2
      by_cases h0 : m = 0
      · subst h0
        rw [if_pos nI_0, b01_f (fun q => by
          obtain ⟨k, hk, hk2, e⟩ := q.2.1
          have := (nI_eq (by omega) (by omega)).mp e
          omega), if00]
        exact ⟨_, σ, μ, rfl, rfl, I⟩
      · rw [if_neg (nI_ne0 (by omega) (by omega)), knownM F.2.2.2.2.2.1 hfn, qcall_s]
        by_cases h3 : inN (fn + 1) a3
        · rw [b01_t h3, if10, b01_t ⟨h1, ⟨m, by omega, hm, rfl⟩, h3⟩, if10]
          obtain ⟨l, hl, rfl⟩ := h1
          obtain ⟨n, hn, rfl⟩ := h3
          obtain ⟨σ', μ', c1, c2, c3, c4, c5, -⟩ := I.stand (n := n) (by omega)
          rw [c1, c2, qcall_s, qcall_s, qix_nI (show l < 6 by omega) (by omega), qix_nI hm (by omega), nI_clamp (by omega), nI_clamp (by omega), qix_nI (show l < 6 by omega) (by omega)]
          obtain ⟨fe, hfe, r1, r2⟩ := c5 l hl
          rcases r2 with ⟨q, w⟩ | ⟨q, mm, b, hb, B⟩
          · exact absurd q (by omega)
          · obtain ⟨b1, b2, b3, b4, b5, b6, b7, b8, b9⟩ := B
            rw [b3]
            by_cases h : mm + 1 ≤ m
            · rw [if_pos (nI_le h (by omega)), (b8 m (by omega) hm).2]
              exact ⟨_, σ', μ', rfl, rfl, c3⟩
            · rw [if_neg (nI_ge (by omega) (by omega)), show (16 : Int32) = nI 16 from rfl, pk_mul, nI_add, qix_nI (by omega) (by omega), nI_clamp (by omega), (b6 m (by omega)).2.2.2.1]
              exact ⟨_, σ', μ', rfl, rfl, c3⟩
        · rw [b01_f h3, if00, b01_f (fun q => h3 q.2.2), if00]
          exact ⟨_, σ, μ, rfl, rfl, I⟩
    · rw [b01_f h2, if00, b01_f (fun q => h2 (by obtain ⟨m, -, hm, e⟩ := q.2.1; exact ⟨m, hm, e⟩)), if00]
      exact ⟨_, σ, μ, rfl, rfl, I⟩
  · rw [b01_f h1, if00, b01_f (fun q => h1 q.1), if00]
    exact ⟨_, σ, μ, rfl, rfl, I⟩
