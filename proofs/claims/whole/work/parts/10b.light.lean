-- ===== the world: the class's and the reference's =====
def InvW (σ μ : St) (mo la : Nat) : Prop :=
  mo ≤ 14 ∧ la ≤ 6 ∧ σ.1 2 6 = nI mo ∧ μ.1 0 35 = nI mo ∧ σ.1 2 7 = nI la ∧ μ.1 0 37 = nI la ∧
  (∀ k, k < mo → σ.1 3 k = μ.1 22 k ∧ 0 ≤ (μ.1 22 k).toInt ∧ (μ.1 22 k).toInt ≤ 9999) ∧
  (∀ l, l < la → σ.1 4 l = μ.1 23 l ∧ -12 ≤ (μ.1 23 l).toInt ∧ (μ.1 23 l).toInt ≤ 12 ∧ σ.1 5 l = μ.1 24 l ∧ ∃ e, e < 400 ∧ μ.1 24 l = nI e) ∧
  (∀ l, l < 6 → (σ.1 13 l = 0 ∧ μ.1 25 l = -1) ∨ ∃ c, 1 ≤ c ∧ c ≤ 60 ∧ σ.1 13 l = nI c ∧ μ.1 25 l = nI c) ∧
  (∀ l i, l < 6 → i < 60 → σ.1 (7 + l) i = μ.1 26 (60 * l + i)) ∧
  (∀ f t, f < 6 → t < 6 → (σ.1 (15 + f) t = 1000000 ∧ μ.1 27 (6 * f + t) = -1) ∨ ∃ n, n ≤ 60 ∧ σ.1 (15 + f) t = nI n ∧ μ.1 27 (6 * f + t) = nI n)
theorem hour_toInt {s : Int32} {d : Nat} (hd : d < 400) (h1 : -12 ≤ s.toInt) (h2 : s.toInt ≤ 12) : ((((24 : Int32) * nI d) + (18 : Int32)) + s).toInt = 24 * (d : Int) + 18 + s.toInt := by
  have e : ((24 : Int32) * nI d) + (18 : Int32) = nI (24 * d + 18) := by
    rw [show (24 : Int32) = nI 24 from rfl, show (18 : Int32) = nI 18 from rfl, pk_mul, nI_add]
  have e2 : (nI (24 * d + 18)).toInt = ((24 * d + 18 : Nat) : Int) := nI_toInt (by omega)
  rw [e, fb_addI (by rw [e2]; omega) (by rw [e2]; omega), e2]
  omega
theorem ageS_nat {h : Nat → Int32} {x : Int32} (hx1 : 0 ≤ x.toInt) (hx2 : x.toInt ≤ 20000) : ∀ {k : Nat}, (∀ j, j < k → 0 ≤ (h j).toInt ∧ (h j).toInt ≤ 9999) → ageS h x k = -1 ∨ ∃ a : Nat, a ≤ 20000 ∧ ageS h x k = nI a
  | 0, _ => Or.inl rfl
  | k + 1, e => by
    rw [ageS]
    by_cases q : x < h k
    · rw [if_pos q]
      exact ageS_nat hx1 hx2 (fun j hj => e j (by omega))
    · rw [if_neg q]
      right
      have hk := e k (by omega)
      have q2 : (h k).toInt ≤ x.toInt := by
        rw [fa_lt] at q
        omega
      have hs : (x - h k).toInt = x.toInt - (h k).toInt := fb_subI (by omega) (by omega)
      refine ⟨(x.toInt - (h k).toInt).toNat, by omega, ?_⟩
      apply (fa_eq _ _).mpr
      rw [hs, nI_toInt (by omega)]
      omega
/-- light in a land on an evening, by the reference's rows -/
def lightS (μ : St) (mo l : Nat) (d : Int32) : Int32 :=
  if ageS (μ.1 22) (hourS (μ.1 23) l d) mo = -1 then 0 else if μ.1 25 l = -1 then 1 else
    μ.1 26 (60 * l + (if μ.1 25 l ≤ ageS (μ.1 22) (hourS (μ.1 23) l d) mo then μ.1 25 l - 1 else ageS (μ.1 22) (hourS (μ.1 23) l d) mo).toNatClampNeg)
theorem age_is {σ μ : St} {mo la l d : Nat} (W : InvW σ μ mo la) (hl : l < la) : ageS (σ.1 3) (hourS (σ.1 4) l (nI d)) mo = ageS (μ.1 22) (hourS (μ.1 23) l (nI d)) mo := by
  obtain ⟨h1, h2, h3, h4, h5, h6, h7, h8, -⟩ := W
  rw [show hourS (σ.1 4) l (nI d) = hourS (μ.1 23) l (nI d) by unfold hourS; rw [(h8 l hl).1]]
  exact ageS_cong (fun j hj => (h7 j hj).1)
theorem age_nat {σ μ : St} {mo la l d : Nat} (W : InvW σ μ mo la) (hl : l < la) (hd : d < 400) : ageS (μ.1 22) (hourS (μ.1 23) l (nI d)) mo = -1 ∨ ∃ a : Nat, a ≤ 20000 ∧ ageS (μ.1 22) (hourS (μ.1 23) l (nI d)) mo = nI a := by
  obtain ⟨h1, h2, h3, h4, h5, h6, h7, h8, -⟩ := W
  have hs := h8 l hl
  have ht := hour_toInt (s := μ.1 23 l) hd hs.2.1 hs.2.2.1
  exact ageS_nat (by unfold hourS; rw [ht]; omega) (by unfold hourS; rw [ht]; omega) (fun j hj => (h7 j hj).2)
theorem fX6_lightOf_is {σ μ : St} {mo la l d : Nat} (W : InvW σ μ mo la) (hl : l < la) (hd : d < 400) : fX6_lightOf μ (nI l) (nI d) = some (lightS μ mo l (nI d), μ) := by
  have hn := age_nat W hl hd
  obtain ⟨h1, h2, h3, h4, h5, h6, h7, h8, h9, h10, h11⟩ := W
  unfold fX6_lightOf lightS
  rw [fX6_ageOf_is (by omega) h4 h1, qcall_s]
  generalize ageS (μ.1 22) (hourS (μ.1 23) l (nI d)) mo = a at hn ⊢
  by_cases ha : a = -1
  · rw [if_pos ha, if_pos ha]
  · rw [if_neg ha, if_neg ha]
    obtain ⟨n, hn1, rfl⟩ := hn.resolve_left ha
    simp only [qix_nI (show l < 6 by omega) (show 6 ≤ 2 ^ 31 by omega), nI_clamp (show l < 2 ^ 31 by omega), qlet]
    rcases h9 l (by omega) with ⟨-, e⟩ | ⟨c, c1, c2, -, e⟩
    · rw [e, if_pos rfl, if_pos rfl]
    · rw [e, if_neg (nI_neg1 (by omega)), if_neg (nI_neg1 (by omega))]
      by_cases q : nI c ≤ nI n
      · have q' := (nI_leI (by omega) (by omega)).mp q
        rw [if_pos q, if_pos q]
        obtain ⟨c', rfl⟩ : ∃ c', c = c' + 1 := ⟨c - 1, by omega⟩
        rw [nI_m1, show (60 : Int32) = nI 60 from rfl, pk_mul, nI_add, qix_nI (by omega) (by omega), nI_clamp (by omega), nI_clamp (by omega)]
      · have q' : n < c := by
          have := mt (nI_leI (a := c) (b := n) (by omega) (by omega)).mpr q
          omega
        rw [if_neg q, if_neg q]
        rw [show (60 : Int32) = nI 60 from rfl, pk_mul, nI_add, qix_nI (by omega) (by omega), nI_clamp (by omega), nI_clamp (by omega)]
theorem fX4_lightOn_is {σ μ : St} {mo la l d : Nat} (W : InvW σ μ mo la) (hl : l < la) (hd : d < 400) : fX4_lightOn σ (nI l) (nI d) = some (lightS μ mo l (nI d), σ) := by
  have hn := age_nat W hl hd
  have he := age_is (d := d) W hl
  obtain ⟨h1, h2, h3, h4, h5, h6, h7, h8, h9, h10, h11⟩ := W
  unfold fX4_lightOn lightS
  rw [fX4_ageOn_is (by omega) h3 h1, qcall_s, he]
  generalize ageS (μ.1 22) (hourS (μ.1 23) l (nI d)) mo = a at hn ⊢
  by_cases ha : a = -1
  · rw [if_pos ha, if_pos ha]
  · rw [if_neg ha, if_neg ha]
    obtain ⟨n, hn1, rfl⟩ := hn.resolve_left ha
    simp only [qix_nI (show l < 6 by omega) (show 6 ≤ 2 ^ 31 by omega), nI_clamp (show l < 2 ^ 31 by omega), qlet]
    rcases h9 l (by omega) with ⟨e1, e⟩ | ⟨c, c1, c2, e1, e⟩
    · rw [e1, e, if_pos rfl, if_pos rfl]
    · rw [e1, e, if_neg (nI_ne0 (by omega) (by omega)), if_neg (nI_neg1 (by omega))]
      obtain ⟨c', rfl⟩ : ∃ c', c = c' + 1 := ⟨c - 1, by omega⟩
      rw [nI_m1]
      by_cases q : nI c' < nI n
      · have q' := (nI_ltI (by omega) (by omega)).mp q
        rw [if_pos q, if_pos (nI_le (by omega) (by omega)), qix_nI (by omega) (by omega), nI_clamp (by omega), h10 l c' (by omega) (by omega)]
      · have q' : n ≤ c' := by
          have := mt (nI_ltI (a := c') (b := n) (by omega) (by omega)).mpr q
          omega
        rw [if_neg q, if_neg (nI_ge (by omega) (by omega)), qix_nI (by omega) (by omega), nI_clamp (by omega), h10 l n (by omega) (by omega)]
