-- ===== relations and rules of a text, on both sides =====
def RelM (μ : St) (p B k : Nat) (r : Rel) : Prop := (k < 200 ∧ B ≤ 500) ∧ ∃ a, 500 * p ≤ a ∧ a + (Rel.L r).length + (Rel.R r).length ≤ 500 * p + B ∧ μ.1 14 (200 * p + k) = nI (Rel.k r - 19) ∧ μ.1 15 (200 * p + k) = nI a ∧ μ.1 16 (200 * p + k) = nI (a + (Rel.L r).length) ∧ μ.1 17 (200 * p + k) = nI (a + (Rel.L r).length + (Rel.R r).length) ∧ μ.1 18 (200 * p + k) = b2 (Rel.o r) ∧ HasM (μ.1 19) (μ.1 20) a (Rel.L r) ∧ HasM (μ.1 19) (μ.1 20) (a + (Rel.L r).length) (Rel.R r)
def RelsO (μ : St) (p B : Nat) : Nat → List Rel → Prop
  | _, [] => True
  | k, r :: rs => RelM μ p B k r ∧ RelsO μ p B (k + 1) rs
theorem RelsO_app {μ : St} {p X : Nat} : ∀ {A B : List Rel} {k : Nat}, RelsO μ p X k (A ++ B) ↔ RelsO μ p X k A ∧ RelsO μ p X (k + A.length) B
  | [], B, c => by simp [RelsO]
  | o :: r, B, c => by
    rw [List.cons_append, RelsO, RelsO, RelsO_app, List.length_cons, show c + 1 + r.length = c + (r.length + 1) by omega, and_assoc]
/-- what a page holds is the same -/
def PgEq (p : Nat) (μ μ1 : St) : Prop := μ1.1 9 p = μ.1 9 p ∧ (∀ i, 10 ≤ i → i ≤ 12 → ∀ r, r < 12 → μ1.1 i (12 * p + r) = μ.1 i (12 * p + r)) ∧ (∀ i, 14 ≤ i → i ≤ 18 → ∀ k, k < 200 → μ1.1 i (200 * p + k) = μ.1 i (200 * p + k)) ∧ (∀ i, 19 ≤ i → i ≤ 20 → ∀ k, k < 500 → μ1.1 i (500 * p + k) = μ.1 i (500 * p + k))
theorem MX.pg {μ μ1 : St} (h : MX μ μ1) (p : Nat) : PgEq p μ μ1 := ⟨by rw [h 9 (by omega) (by omega)], fun i h1 h2 r _ => by rw [h i (by omega) (by omega)], fun i h1 h2 r _ => by rw [h i (by omega) (by omega)], fun i h1 h2 r _ => by rw [h i (by omega) (by omega)]⟩
theorem PgEq.rf (p : Nat) (μ : St) : PgEq p μ μ := (MX.rf μ).pg p
theorem PgEq.trans {p : Nat} {a b c : St} (h : PgEq p a b) (g : PgEq p b c) : PgEq p a c := ⟨g.1.trans h.1, fun i h1 h2 r h3 => (g.2.1 i h1 h2 r h3).trans (h.2.1 i h1 h2 r h3), fun i h1 h2 r h3 => (g.2.2.1 i h1 h2 r h3).trans (h.2.2.1 i h1 h2 r h3), fun i h1 h2 r h3 => (g.2.2.2 i h1 h2 r h3).trans (h.2.2.2 i h1 h2 r h3)⟩
theorem RelM.congr {μ μ1 : St} {p B B' k : Nat} {r : Rel} (hB : B ≤ B') (hB' : B' ≤ 500) (h : RelM μ p B k r) (g : (∀ i, 14 ≤ i → i ≤ 18 → μ1.1 i (200 * p + k) = μ.1 i (200 * p + k)) ∧ ∀ i, 19 ≤ i → i ≤ 20 → ∀ j, j < B → μ1.1 i (500 * p + j) = μ.1 i (500 * p + j)) : RelM μ1 p B' k r := by
  obtain ⟨h0, a, h1, h2, h3, h4, h5, h6, h7, h8, h9⟩ := h
  refine ⟨⟨h0.1, hB'⟩, a, h1, by omega, by rw [g.1 14 (by omega) (by omega)]; exact h3, by rw [g.1 15 (by omega) (by omega)]; exact h4, by rw [g.1 16 (by omega) (by omega)]; exact h5, by rw [g.1 17 (by omega) (by omega)]; exact h6, by rw [g.1 18 (by omega) (by omega)]; exact h7, HasM_congr h8 (fun i q1 q2 => ?_), HasM_congr h9 (fun i q1 q2 => ?_)⟩
  · have := g.2 19 (by omega) (by omega) (i - 500 * p) (by omega)
    have e2 := g.2 20 (by omega) (by omega) (i - 500 * p) (by omega)
    rw [show 500 * p + (i - 500 * p) = i by omega] at this e2
    exact ⟨this, e2⟩
  · have := g.2 19 (by omega) (by omega) (i - 500 * p) (by omega)
    have e2 := g.2 20 (by omega) (by omega) (i - 500 * p) (by omega)
    rw [show 500 * p + (i - 500 * p) = i by omega] at this e2
    exact ⟨this, e2⟩
theorem RelsO.congr {μ μ1 : St} {p B B' : Nat} (hB : B ≤ B') (hB' : B' ≤ 500) (g : (∀ i, 14 ≤ i → i ≤ 18 → ∀ k, k < 200 → μ1.1 i (200 * p + k) = μ.1 i (200 * p + k)) ∧ ∀ i, 19 ≤ i → i ≤ 20 → ∀ j, j < B → μ1.1 i (500 * p + j) = μ.1 i (500 * p + j)) : ∀ {rs : List Rel} {k : Nat}, RelsO μ p B k rs → RelsO μ1 p B' k rs
  | [], _, _ => trivial
  | r :: rs, k, h => ⟨h.1.congr hB hB' ⟨fun i h1 h2 => g.1 i h1 h2 k h.1.1.1, g.2⟩, RelsO.congr hB hB' g h.2⟩
theorem RelsO.B5 {μ : St} {p B : Nat} {r : Rel} {rs : List Rel} {k : Nat} (h : RelsO μ p B k (r :: rs)) : B ≤ 500 := h.1.1.2
theorem relB_ref {k : Nat} (h1 : 19 ≤ k) (h2 : k ≤ 22) {a b : Int32} {α : Type} (F : Int32 → α) : (if nI (k - 19) = 0 then (if a = b then F 1 else F 0) else (if nI (k - 19) = 1 then (if a = b then F 0 else F 1) else (if nI (k - 19) = 2 then (if b ≤ a then F 0 else F 1) else (if b < a then F 0 else F 1)))) = F (b2 (relB k a b)) := by
  rcases (show k = 19 ∨ k = 20 ∨ k = 21 ∨ k = 22 by omega) with rfl | rfl | rfl | rfl
  · rw [if_pos (by decide)]
    by_cases q : a = b <;> simp [relB, b2, q]
  · rw [if_neg (by decide), if_pos (by decide)]
    by_cases q : a = b <;> simp [relB, b2, q]
  · rw [if_neg (by decide), if_neg (by decide), if_pos (by decide)]
    by_cases q : b ≤ a <;> simp [relB, b2, q]
  · rw [if_neg (by decide), if_neg (by decide), if_neg (by decide)]
    by_cases q : b < a <;> simp [relB, b2, q]
/-- a relation is asked -/
theorem holdsM_ask {V : Nat → Int32} {μ : St} {p x k n : Nat} {r : Rel} {v e : Nat} (hp : p < 12) (hx : x < 144) (he : μ.1 12 x = nI e) (hk : k < e) (he2 : e ≤ 200) (hr : okRel r) (R : RelM μ p 500 k r) (hV : ∀ i, i < 8 → μ.1 38 i = V i) (hv : v ≤ 1) (hgo : (Rel.o r = true ∧ v = 0) ∨ (Rel.o r = false ∧ v = 1)) : ∃ μ', fX6_holds_L (nI x) (nI p) (n + 1) (nI v) (nI k) μ = fX6_holds_L (nI x) (nI p) n (b2 (rbS V r)) (nI (k + 1)) μ' ∧ (∀ i, i ≠ 39 → μ'.1 i = μ.1 i) ∧ μ'.2 = μ.2 := by
  obtain ⟨h0, a, h1, h2, h3, h4, h5, h6, h7, h8, h9⟩ := R
  obtain ⟨μ1, a1, a2, a3⟩ := valM_is (V := V) hr.1 (b := a + (Rel.L r).length) rfl (by omega) h8 hV
  obtain ⟨μ2, b1, b2', b3⟩ := valM_is (V := V) (μ := μ1) hr.2.1 (a := a + (Rel.L r).length) (b := a + (Rel.L r).length + (Rel.R r).length) rfl (by omega) (by rw [a2 19 (by omega), a2 20 (by omega)]; exact h9) (fun i hi => by rw [a2 38 (by omega)]; exact hV i hi)
  have e14 : μ2.1 14 (200 * p + k) = nI (Rel.k r - 19) := by rw [b2' 14 (by omega), a2 14 (by omega)]; exact h3
  have e16 : μ1.1 16 (200 * p + k) = nI (a + (Rel.L r).length) := by rw [a2 16 (by omega)]; exact h5
  have e17 : μ1.1 17 (200 * p + k) = nI (a + (Rel.L r).length + (Rel.R r).length) := by rw [a2 17 (by omega)]; exact h6
  refine ⟨μ2, ?_, fun i hi => (b2' i hi).trans (a2 i hi), b3.trans a3⟩
  rw [fX6_holds_L, qix_nI hx (by omega), nI_clamp (by omega), he, if_neg (nI_ge hk (by omega))]
  have e200 : (200 : Int32) * nI p + nI k = nI (200 * p + k) := by rw [show (200 : Int32) = nI 200 from rfl, pk_mul, nI_add]
  have qx : ∀ {β : Type} {b : Option β}, qix (nI (200 * p + k)) 2400 b = b := qix_nI (by omega) (by omega)
  have F := relB_ref (a := valS V (Rel.L r)) (b := valS V (Rel.R r)) hr.2.2.1 hr.2.2.2 (fun y => fX6_holds_L (nI x) (nI p) n y (nI (k + 1)) μ2)
  rcases hgo with ⟨o1, rfl⟩ | ⟨o1, rfl⟩
  · rw [o1] at h7
    simp only [qlet_e, e200, qx, nI_clamp (show 200 * p + k < 2 ^ 31 by omega), h7, show ¬ b2 true = 0 by decide, if_false, show nI 0 = 0 from rfl, if_true, show ¬ (1 : Int32) = 0 by decide, h4, h5, a1, qcall_s, e16, e17, b1, e14, nI_1]
    exact F
  · rw [o1] at h7
    simp only [qlet_e, e200, qx, nI_clamp (show 200 * p + k < 2 ^ 31 by omega), h7, show b2 false = 0 from rfl, if_false, show nI 1 = 1 from rfl, if_true, show ¬ (1 : Int32) = 0 by decide, h4, h5, a1, qcall_s, e16, e17, b1, e14, nI_1]
    exact F
theorem holdsM_skip {μ : St} {p x k n : Nat} {r : Rel} {e : Nat} (hp : p < 12) (hx : x < 144) (he : μ.1 12 x = nI e) (hk : k < e) (he2 : e ≤ 200) (R : RelM μ p 500 k r) (ho : Rel.o r = false) : fX6_holds_L (nI x) (nI p) (n + 1) 0 (nI k) μ = fX6_holds_L (nI x) (nI p) n 0 (nI (k + 1)) μ := by
  obtain ⟨h0, a, h1, h2, h3, h4, h5, h6, h7, h8, h9⟩ := R
  rw [fX6_holds_L, qix_nI hx (by omega), nI_clamp (by omega), he, if_neg (nI_ge hk (by omega))]
  have e200 : (200 : Int32) * nI p + nI k = nI (200 * p + k) := by rw [show (200 : Int32) = nI 200 from rfl, pk_mul, nI_add]
  have qx : ∀ {β : Type} {b : Option β}, qix (nI (200 * p + k)) 2400 b = b := qix_nI (by omega) (by omega)
  rw [ho] at h7
  simp only [qlet_e, e200, qx, nI_clamp (show 200 * p + k < 2 ^ 31 by omega), h7, show b2 false = 0 from rfl, if_true, nI_1]
theorem holdsM_yes {μ : St} {p x k n : Nat} {r : Rel} {e : Nat} (hp : p < 12) (hx : x < 144) (he : μ.1 12 x = nI e) (hk : k < e) (he2 : e ≤ 200) (R : RelM μ p 500 k r) (ho : Rel.o r = true) : fX6_holds_L (nI x) (nI p) (n + 1) 1 (nI k) μ = some (1, μ) := by
  obtain ⟨h0, a, h1, h2, h3, h4, h5, h6, h7, h8, h9⟩ := R
  rw [fX6_holds_L, qix_nI hx (by omega), nI_clamp (by omega), he, if_neg (nI_ge hk (by omega))]
  have e200 : (200 : Int32) * nI p + nI k = nI (200 * p + k) := by rw [show (200 : Int32) = nI 200 from rfl, pk_mul, nI_add]
  have qx : ∀ {β : Type} {b : Option β}, qix (nI (200 * p + k)) 2400 b = b := qix_nI (by omega) (by omega)
  rw [ho] at h7
  simp only [qlet_e, e200, qx, nI_clamp (show 200 * p + k < 2 ^ 31 by omega), h7, show ¬ b2 true = 0 by decide, if_false, show ¬ (1 : Int32) = 0 by decide]
  rfl
theorem holdsM_run {V : Nat → Int32} {p x e : Nat} (hp : p < 12) (hx : x < 144) (he2 : e ≤ 200) : ∀ (rs : List Rel) (a : Bool) (k n : Nat) (μ : St), RelsO μ p 500 k rs → (∀ r ∈ rs, okRel r) → μ.1 12 x = nI e → k + rs.length = e → (∀ i, i < 8 → μ.1 38 i = V i) → rs.length < n → ∃ μ', fX6_holds_L (nI x) (nI p) n (b2 a) (nI k) μ = some (b2 (goS V a rs), μ') ∧ (∀ i, i ≠ 39 → μ'.1 i = μ.1 i) ∧ μ'.2 = μ.2
  | [], a, k, n + 1, μ, _, _, he, hk, _, _ => by
    have hk : k = e := hk
    subst hk
    refine ⟨μ, ?_, fun _ _ => rfl, rfl⟩
    rw [fX6_holds_L, qix_nI hx (by omega), nI_clamp (by omega), he, if_pos (nI_le (Nat.le_refl _) (by omega)), goS]
    cases a <;> rfl
  | r :: rs, a, k, n + 1, μ, hR, ho, he, hk, hV, hn => by
    rw [List.length_cons] at hk hn
    have hr := ho r List.mem_cons_self
    have go : ∀ v : Nat, v ≤ 1 → (Rel.o r = true ∧ v = 0) ∨ (Rel.o r = false ∧ v = 1) → ∃ μ', fX6_holds_L (nI x) (nI p) (n + 1) (nI v) (nI k) μ = some (b2 (goS V (rbS V r) rs), μ') ∧ (∀ i, i ≠ 39 → μ'.1 i = μ.1 i) ∧ μ'.2 = μ.2 := fun v hv hg => by
      obtain ⟨μ1, a1, a2, a3⟩ := holdsM_ask (V := V) (n := n) hp hx he (by omega) he2 hr hR.1 hV hv hg
      obtain ⟨μ2, c1, c2, c3⟩ := holdsM_run (V := V) hp hx he2 rs (rbS V r) (k + 1) n μ1 (RelsO.congr (Nat.le_refl _) (Nat.le_refl _) ⟨fun i h1 h2 k _ => by rw [a2 i (by omega)], fun i h1 h2 k _ => by rw [a2 i (by omega)]⟩ hR.2) (fun q hq => ho q (List.mem_cons_of_mem _ hq)) (by rw [a2 12 (by omega)]; exact he) (by omega) (fun i hi => by rw [a2 38 (by omega)]; exact hV i hi) (by omega)
      exact ⟨μ2, by rw [a1, c1], fun i hi => (c2 i hi).trans (a2 i hi), c3.trans a3⟩
    rw [goS]
    cases o1 : Rel.o r <;> cases a
    · rw [if_neg (by decide)]
      have := holdsM_skip (n := n) hp hx he (by omega) he2 hR.1 o1
      obtain ⟨μ2, c1, c2, c3⟩ := holdsM_run (V := V) hp hx he2 rs false (k + 1) n μ hR.2 (fun q hq => ho q (List.mem_cons_of_mem _ hq)) he (by omega) hV (by omega)
      exact ⟨μ2, by rw [show b2 false = 0 from rfl, this]; exact c1, c2, c3⟩
    · rw [if_neg (by decide)]
      exact go 1 (by omega) (Or.inr ⟨o1, rfl⟩)
    · rw [if_neg (by decide)]
      exact go 0 (by omega) (Or.inl ⟨o1, rfl⟩)
    · rw [if_pos (by decide)]
      exact ⟨μ, holdsM_yes hp hx he (by omega) he2 hR.1 o1, fun _ _ => rfl, rfl⟩
-- ===== a text =====
abbrev Rule : Type := Nat × List Rel
def offC (K : Nat → Rule) : Nat → Nat
  | 0 => 0
  | r + 1 => offC K r + (cc (K r).2 true).1.length
def offR (K : Nat → Rule) : Nat → Nat
  | 0 => 0
  | r + 1 => offR K r + (K r).2.length
def okK (n : Nat) (K : Nat → Rule) : Prop := n ≤ 12 ∧ ∀ r, r < n → (K r).1 < 3 ∧ okRs (K r).2 ∧ (K r).2 ≠ []
def TxC (σ : St) (t n : Nat) (K : Nat → Rule) : Prop := σ.1 (61 + 5 * t) 5 = nI n ∧ ∀ r, r < n → σ.1 (61 + 5 * t + 1) r = nI (K r).1 ∧ σ.1 (61 + 5 * t + 2) r = nI (offC K (r + 1)) ∧ offC K (r + 1) ≤ 400 ∧ HasC (σ.1 (61 + 5 * t + 3)) (offC K r) (cc (K r).2 true).1
def TxM (μ : St) (p B n : Nat) (K : Nat → Rule) : Prop := μ.1 9 p = nI n ∧ ∀ r, r < n → μ.1 10 (12 * p + r) = nI (K r).1 ∧ μ.1 11 (12 * p + r) = nI (offR K r) ∧ μ.1 12 (12 * p + r) = nI (offR K (r + 1)) ∧ offR K (r + 1) ≤ 200 ∧ RelsO μ p B (offR K r) (K r).2.reverse
theorem TxC.congr {σ σ1 : St} {t n : Nat} {K : Nat → Rule} (h : TxC σ t n K) (g : ∀ i, i ≤ 3 → σ1.1 (61 + 5 * t + i) = σ.1 (61 + 5 * t + i)) : TxC σ1 t n K := by
  have g0 := g 0 (by omega)
  rw [Nat.add_zero] at g0
  refine ⟨by rw [g0]; exact h.1, fun r hr => ?_⟩
  rw [g 1 (by omega), g 2 (by omega), g 3 (by omega)]
  exact h.2 r hr
theorem TxM.congr {μ μ1 : St} {p n : Nat} {K : Nat → Rule} (hn : n ≤ 12) (h : TxM μ p 500 n K) (g : PgEq p μ μ1) : TxM μ1 p 500 n K := by
  refine ⟨by rw [g.1]; exact h.1, fun r hr => ?_⟩
  rw [g.2.1 10 (by omega) (by omega) r (by omega), g.2.1 11 (by omega) (by omega) r (by omega), g.2.1 12 (by omega) (by omega) r (by omega)]
  obtain ⟨a1, a2, a3, a4, a5⟩ := h.2 r hr
  exact ⟨a1, a2, a3, a4, RelsO.congr (Nat.le_refl _) (Nat.le_refl _) g.2.2 a5⟩
theorem okRs_all : ∀ {rs : List Rel}, okRs rs → ∀ r ∈ rs, okRel r
  | q :: rs, h, r, hr => by
    rcases List.mem_cons.mp hr with e | e
    · rw [e]
      exact h.1
    · exact okRs_all h.2.2 r e
theorem cc_ok : ∀ {rs : List Rel}, okRs rs → ∀ b, (∀ o ∈ (cc rs b).1, okOpC o) ∧ ∀ k ∈ (cc rs b).2, k = 4 ∨ k = 5
  | [], _, b => ⟨fun o h => (by cases h), fun k h => (by cases h)⟩
  | r :: rs, h, b => by
    obtain ⟨i1, i2⟩ := cc_ok h.2.2 (Rel.o r)
    obtain ⟨⟨l1, -⟩, ⟨r1, -⟩, k1, k2⟩ := h.1
    have hk : okOpC (Op.bin (Rel.k r)) := Or.inr (Or.inr ⟨by omega, k2⟩)
    have c2 : ∀ k ∈ (cc rs (Rel.o r)).2, okOpC (Op.bin k) := fun k hk => by
      rcases i2 k hk with e | e
      · exact Or.inl e
      · exact Or.inr (Or.inl e)
    rw [cc]
    cases b
    · rw [if_neg (by decide)]
      refine ⟨fun o ho => ?_, fun k hk => ?_⟩
      · simp only [List.mem_append, List.mem_cons, List.mem_map, List.mem_filter] at ho
        rcases ho with ho | ho | ho | ho | ⟨k, ⟨hk, -⟩, rfl⟩
        · exact i1 o ho
        · exact (l1 o ho).c
        · exact (r1 o ho).c
        · rw [ho]; exact hk
        · exact c2 k hk
      · simp only [List.mem_cons, List.mem_filter] at hk
        rcases hk with e | ⟨hk, -⟩
        · exact Or.inr e
        · exact i2 k hk
    · rw [if_pos rfl]
      refine ⟨fun o ho => ?_, fun k hk => ?_⟩
      · simp only [List.mem_append, List.mem_cons, List.mem_map] at ho
        rcases ho with ho | ho | ho | ho | ⟨k, hk, rfl⟩
        · exact i1 o ho
        · exact (l1 o ho).c
        · exact (r1 o ho).c
        · rw [ho]; exact hk
        · exact c2 k hk
      · simp only [List.mem_cons, List.not_mem_nil, or_false] at hk
        exact Or.inl hk
/-- a rule of a text holds alike -/
theorem holdsC_is {V : Nat → Int32} {σ : St} {t n r : Nat} {K : Nat → Rule} (hK : okK n K) (T : TxC σ t n K) (hr : r < n) (hV : ∀ i, i < 8 → σ.1 59 (6 + i) = V i) : ∃ σ', fX3_holds σ t (nI r) = some (b2 (goS V false (K r).2.reverse), σ') ∧ (∀ i, i ≠ 61 + 5 * t + 4 → σ'.1 i = σ.1 i) ∧ σ'.2 = σ.2 := by
  have hn := hK.1
  obtain ⟨k1, k2, k3⟩ := hK.2 r hr
  obtain ⟨-, T2⟩ := T
  obtain ⟨a1, a2, a3, a4⟩ := T2 r hr
  obtain ⟨w1, w2⟩ := both_ways V k2 k3
  have run := fun m (hm : (cc (K r).2 true).1.length < m) => holdsC_run (t := t) (V := V) (show r < 12 by omega) (cc (K r).2 true).1 [] (offC K r) m σ (by rw [a2, offC]) (by rw [offC] at a3; exact a3) (cc_ok k2 true).1 a4 trivial (Nat.zero_le _) hV w1 hm
  obtain ⟨σ', i1, i2, i3⟩ := run 100000 (by rw [offC] at a3; omega)
  refine ⟨σ', ?_, i2, i3⟩
  have ev : (if (ex V (cc (K r).2 true).1 []).headD 0 = 0 then (0 : Int32) else 1) = b2 (goS V false (K r).2.reverse) := by
    rw [w2]
    cases goS V false (K r).2.reverse <;> rfl
  rw [ev] at i1
  unfold fX3_holds
  rw [qlet_e]
  by_cases q : r = 0
  · subst q
    rw [if_pos nI_0]
    exact i1
  · rw [if_neg (nI_ne0 (by omega) (by omega))]
    obtain ⟨s, rfl⟩ : ∃ s, r = s + 1 := ⟨r - 1, by omega⟩
    rw [nI_m1, qix_nI (by omega) (by omega), nI_clamp (by omega), (T2 s (by omega)).2.1]
    exact i1
theorem holdsM_is {V : Nat → Int32} {μ : St} {p n r : Nat} {K : Nat → Rule} (hp : p < 12) (hK : okK n K) (T : TxM μ p 500 n K) (hr : r < n) (hV : ∀ i, i < 8 → μ.1 38 i = V i) : ∃ μ', fX6_holds μ (nI (12 * p + r)) (nI p) = some (b2 (goS V false (K r).2.reverse), μ') ∧ (∀ i, i ≠ 39 → μ'.1 i = μ.1 i) ∧ μ'.2 = μ.2 := by
  have hn := hK.1
  obtain ⟨k1, k2, k3⟩ := hK.2 r hr
  obtain ⟨-, T2⟩ := T
  obtain ⟨a1, a2, a3, a4, a5⟩ := T2 r hr
  obtain ⟨μ', i1, i2, i3⟩ := holdsM_run (V := V) (x := 12 * p + r) hp (by omega) a4 (K r).2.reverse false (offR K r) 100000 μ a5 (fun q hq => okRs_all k2 q (List.mem_reverse.mp hq)) a3 (by rw [List.length_reverse, offR]) hV (by rw [List.length_reverse]; rw [offR] at a4; omega)
  refine ⟨μ', ?_, i2, i3⟩
  unfold fX6_holds
  rw [qix_nI (by omega) (by omega), nI_clamp (by omega), a2, qlet_e]
  exact i1
