-- ===== a relation: both at once =====
/-- what telling a text may change -/
def RK (p : Nat) (μ μ' : St) : Prop := (∀ i, i ≠ 0 → ¬ (9 ≤ i ∧ i ≤ 21) → μ'.1 i = μ.1 i) ∧ (∀ i, i ≠ 11 → i ≠ 12 → i ≠ 13 → i ≠ 14 → i ≠ 30 → i ≠ 34 → μ'.1 0 i = μ.1 0 i) ∧ (∀ q, q ≠ p → PgEq q μ μ') ∧ μ'.2 = μ.2
theorem RK.rf (p : Nat) (μ : St) : RK p μ μ := ⟨fun _ _ _ => rfl, fun _ _ _ _ _ _ _ => rfl, fun q _ => PgEq.rf q μ, rfl⟩
theorem RK.trans {p : Nat} {a b c : St} (h : RK p a b) (g : RK p b c) : RK p a c := ⟨fun i h1 h2 => (g.1 i h1 h2).trans (h.1 i h1 h2), fun i h1 h2 h3 h4 h5 h6 => (g.2.1 i h1 h2 h3 h4 h5 h6).trans (h.2.1 i h1 h2 h3 h4 h5 h6), fun q hq => (h.2.2.1 q hq).trans (g.2.2.1 q hq), g.2.2.2.trans h.2.2.2⟩
theorem XM.rk {p c : Nat} {μ μ' : St} (h : XM p c μ μ') : RK p μ μ' := ⟨fun i h1 h2 => h.1 i h1 (by omega) (by omega) (by omega), h.2.1, fun q hq => ⟨by rw [h.1 9 (by omega) (by omega) (by omega) (by omega)], fun i h1 h2 r _ => by rw [h.1 i (by omega) (by omega) (by omega) (by omega)], fun i h1 h2 r _ => by rw [h.1 i (by omega) (by omega) (by omega) (by omega)], fun i h1 h2 j hj => h.2.2.1 i h1 h2 _ (by omega)⟩, h.2.2.2⟩
/-- a cell of a page is written -/
theorem RK.set9 (p : Nat) (μ : St) (v : Int32) : RK p μ (sI μ 9 p v) := ⟨fun i h1 h2 => sI_n _ _ _ _ (by omega), fun i _ _ _ _ _ _ => by rw [sI_n _ _ _ _ (by omega)], fun q hq => ⟨by rw [sI_s, upd_n _ _ hq], fun i h1 h2 r _ => by rw [sI_n _ _ _ _ (by omega)], fun i h1 h2 r _ => by rw [sI_n _ _ _ _ (by omega)], fun i h1 h2 j hj => by rw [sI_n _ _ _ _ (by omega)]⟩, rfl⟩
theorem RK.set13 (p : Nat) (μ : St) (x : Nat) (v : Int32) : RK p μ (sI μ 13 x v) := ⟨fun i h1 h2 => sI_n _ _ _ _ (by omega), fun i _ _ _ _ _ _ => by rw [sI_n _ _ _ _ (by omega)], fun q hq => ⟨by rw [sI_n _ _ _ _ (by omega)], fun i h1 h2 r _ => by rw [sI_n _ _ _ _ (by omega)], fun i h1 h2 r _ => by rw [sI_n _ _ _ _ (by omega)], fun i h1 h2 j hj => by rw [sI_n _ _ _ _ (by omega)]⟩, rfl⟩
theorem RK.set10 (p : Nat) (μ : St) {i0 R : Nat} (v : Int32) (hi : 10 ≤ i0 ∧ i0 ≤ 12) (hR : R < 12) : RK p μ (sI μ i0 (12 * p + R) v) := ⟨fun i h1 h2 => sI_n _ _ _ _ (by omega), fun i _ _ _ _ _ _ => by rw [sI_n _ _ _ _ (by omega)], fun q hq => ⟨by rw [sI_n _ _ _ _ (by omega)], fun i h1 h2 r hr => by
    by_cases e : i = i0
    · rw [e, sI_s, upd_n _ _ (by omega)]
    · rw [sI_n _ _ _ _ e], fun i h1 h2 r _ => by rw [sI_n _ _ _ _ (by omega)], fun i h1 h2 j hj => by rw [sI_n _ _ _ _ (by omega)]⟩, rfl⟩
theorem RK.set14 (p : Nat) (μ : St) {i0 x : Nat} (v : Int32) (hi : 14 ≤ i0 ∧ i0 ≤ 18) (hx : x < 200) : RK p μ (sI μ i0 (200 * p + x) v) := ⟨fun i h1 h2 => sI_n _ _ _ _ (by omega), fun i _ _ _ _ _ _ => by rw [sI_n _ _ _ _ (by omega)], fun q hq => ⟨by rw [sI_n _ _ _ _ (by omega)], fun i h1 h2 r hr => by rw [sI_n _ _ _ _ (by omega)], fun i h1 h2 r _ => by
    by_cases e : i = i0
    · rw [e, sI_s, upd_n _ _ (by omega)]
    · rw [sI_n _ _ _ _ e], fun i h1 h2 j hj => by rw [sI_n _ _ _ _ (by omega)]⟩, rfl⟩
theorem RK.tks {p : Nat} {μ μ' : St} {f : Nat → Int32} {n : Nat} (h : RK p μ μ') (T : TKs f n μ) : TKs f n μ' := fun j h1 h2 => by
  unfold TokM
  rw [h.1 3 (by omega) (by omega), h.1 4 (by omega) (by omega), h.1 5 (by omega) (by omega)]
  exact T j h1 h2
theorem offR_mono (K : Nat → Rule) : ∀ {a b : Nat}, a ≤ b → offR K a ≤ offR K b
  | a, 0, h => by
    have : a = 0 := by omega
    rw [this]
    exact Nat.le_refl _
  | a, b + 1, h => by
    by_cases q : a = b + 1
    · rw [q]
      exact Nat.le_refl _
    · have := offR_mono K (a := a) (b := b) (by omega)
      rw [offR]
      omega
/-- the reference stands in a rule, before an expression -/
def PR (μ : St) (p R : Nat) (K : Nat → Rule) (rs : List Rel) (c k : Nat) : Prop := TxM μ p c R K ∧ μ.1 13 p = nI (offR K R + rs.length) ∧ RelsO μ p c (offR K R) rs.reverse ∧ μ.1 0 19 = nI p ∧ p < 12 ∧ μ.1 0 30 = nI (500 * p + c) ∧ c ≤ k ∧ k ≤ 400 ∧ 2 * (offR K R + rs.length) ≤ k ∧ R ≤ 12 ∧ μ.1 0 12 = 0
theorem PR.xm {μ μ' : St} {p R : Nat} {K : Nat → Rule} {rs : List Rel} {c c' k k' : Nat} (h : PR μ p R K rs c k) (x : XM p c μ μ') (hc : c ≤ c') (h30 : μ'.1 0 30 = nI (500 * p + c')) (h12 : μ'.1 0 12 = 0) (hk : k ≤ k') (hk4 : k' ≤ 400) (hck : c' ≤ k') : PR μ' p R K rs c' k' := by
  obtain ⟨⟨t1, t2⟩, h2, h3, h4, h5, h6, h7, h8, h9, h10, h11⟩ := h
  have g : (∀ i, 14 ≤ i → i ≤ 18 → ∀ k, k < 200 → μ'.1 i (200 * p + k) = μ.1 i (200 * p + k)) ∧ ∀ i, 19 ≤ i → i ≤ 20 → ∀ j, j < c → μ'.1 i (500 * p + j) = μ.1 i (500 * p + j) := ⟨fun i h1 h2 k _ => by rw [x.1 i (by omega) (by omega) (by omega) (by omega)], fun i h1 h2 j hj => x.2.2.1 i h1 h2 _ (by omega)⟩
  refine ⟨⟨by rw [x.1 9 (by omega) (by omega) (by omega) (by omega)]; exact t1, fun r hr => ?_⟩, by rw [x.1 13 (by omega) (by omega) (by omega) (by omega)]; exact h2, RelsO.congr hc (by omega) g h3, by rw [x.2.1 19 (by omega) (by omega) (by omega) (by omega) (by omega) (by omega)]; exact h4, h5, h30, hck, hk4, by omega, h10, h12⟩
  rw [x.1 10 (by omega) (by omega) (by omega) (by omega), x.1 11 (by omega) (by omega) (by omega) (by omega), x.1 12 (by omega) (by omega) (by omega) (by omega)]
  obtain ⟨a1, a2, a3, a4, a5⟩ := t2 r hr
  exact ⟨a1, a2, a3, a4, RelsO.congr hc (by omega) g a5⟩
theorem popB_any {b : Nat} (h1 : 1 ≤ b) (h4 : b ≤ 4) {w : List Nat} : okW w → popB b w = popB 4 w := by
  induction w with
  | nil => intro _; rfl
  | cons x r ih =>
    intro h
    rw [popB, popB, ih h.2.2]
    rcases h.1 with rfl | rfl | rfl | rfl
    · rw [if_pos (show b ≤ bondN 16 from h4), if_pos (show 4 ≤ bondN 16 by decide)]
    · rw [if_pos (show b ≤ bondN 17 from h4), if_pos (show 4 ≤ bondN 17 by decide)]
    · rw [if_pos (show b ≤ bondN 18 from Nat.le_succ_of_le h4), if_pos (show 4 ≤ bondN 18 by decide)]
    · rw [if_neg (show ¬ b ≤ bondN 23 by show ¬ b ≤ 0; omega), if_neg (show ¬ 4 ≤ bondN 23 by decide)]
theorem ccw {rs : List Rel} (h : okRs rs) : ∀ o, (cc rs o).2 = [] ∨ (cc rs o).2 = [4] ∨ (cc rs o).2 = [5] ∨ (cc rs o).2 = [5, 4] := fun o => by
  by_cases e : rs = []
  · subst e
    exact Or.inl rfl
  · obtain ⟨-, q⟩ := cc_is (fun _ => 0) rs h e o
    rcases q with ⟨-, q, -⟩ | ⟨-, q, -⟩ | ⟨-, q, -⟩
    · exact Or.inr (Or.inl q)
    · exact Or.inr (Or.inr (Or.inl q))
    · exact Or.inr (Or.inr (Or.inr q))
theorem rk_rel : ∀ c, c < 26 → ((11 ≤ rkT.getD c 0 ∧ rkT.getD c 0 ≤ 14) ↔ (19 ≤ c ∧ c ≤ 22)) ∧ (19 ≤ c ∧ c ≤ 22 → rkT.getD c 0 = c - 8) := by decide +kernel
theorem KR_rel {c : Nat} {y : Int32} {α : Type} {a b : α} (h : KR c y) : (if y - 11 < 0 then a else if y - 11 ≤ 3 then b else a) = if 19 ≤ c ∧ c ≤ 22 then b else a := by
  rcases h with ⟨h1, rfl⟩ | ⟨rfl, h1⟩
  · have r := rk_lt c (by omega)
    have v := (rk_rel c (by omega)).1
    by_cases q1 : rkT.getD c 0 < 11
    · rw [if_pos (show nI (rkT.getD c 0) - 11 < 0 from pk_sneg (b := 11) (by omega) q1), if_neg (fun z => by have := v.mpr z; omega)]
    · have e : nI (rkT.getD c 0) - 11 = nI (rkT.getD c 0 - 11) := pk_sub (b := 11) (by omega)
      rw [e, if_neg (nI_pos (by omega))]
      by_cases q2 : rkT.getD c 0 - 11 ≤ 3
      · rw [if_pos (show nI (rkT.getD c 0 - 11) ≤ 3 from nI_le (b := 3) q2 (by omega)), if_pos (v.mp ⟨by omega, by omega⟩)]
      · rw [if_neg (show ¬ nI (rkT.getD c 0 - 11) ≤ 3 from nI_ge (a := 3) (by omega) (by omega)), if_neg (fun z => by have := v.mpr z; omega)]
  · rw [if_neg (show ¬ (19 ≤ 26 ∧ 26 ≤ 22) by omega)]
    rcases h1 with rfl | rfl
    · rw [if_pos (by decide)]
    · rw [if_pos (by decide)]
/-- behind a fault a relation ends -/
theorem expr_dead {μ : St} {e pl : Nat} (h : FM μ e pl) : ∃ μ', fX6_expression μ = some (0, μ') ∧ FM μ' e pl ∧ ∀ p c, XM p c μ μ' := by
  have h2 : FM (sI μ 0 34 0) e pl := ⟨by rw [sI_s, upd_n _ _ (by omega)]; exact h.1, h.2.1, by rw [sI_s, upd_n _ _ (by omega)]; exact h.2.2.1, by rw [sI_s, upd_n _ _ (by omega)]; exact h.2.2.2⟩
  refine ⟨sI μ 0 34 0, ?_, h2, fun p c => XM.s0 p c μ _ (by omega)⟩
  unfold fX6_expression
  rw [qlet_e, qlet_e]
  exact ex0_dead (N := 99999) h2
/-- an expression, told by both -/
theorem expr_sim {F t : Nat} {a2 : Int32} {f : Nat → Int32} {n l0 : Nat} {D0 : List Op} {base : List Nat} {rel : Bool} {p c R k : Nat} {σ μ : St} (hF : 500 ≤ F) (hR2 : R ≤ 12) (hb : baseOk base) (P : PC σ f n t l0 k D0 base 0 rel) (hR : σ.1 (61 + 5 * t) 5 = nI R) (hp : p < 12) (h12 : μ.1 0 12 = 0) (h30 : μ.1 0 30 = nI (500 * p + c)) (hc : c ≤ k) (ht : μ.1 0 11 = nI k) (hf : μ.1 0 13 = 0) (T : TKs f n μ) (hE : NoE f n k) (hk : k ≤ 400) : ∃ μ', fX6_expression μ = some (0, μ') ∧ XM p c μ μ' ∧ (Flt t l0 (CL F t a2 2 k σ) σ μ' ∨ ExB F t a2 f n l0 D0 base rel p c R (CL F t a2 2 k σ) k σ μ') := by
  have y : XM p c μ (sI μ 0 34 0) := XM.s0 p c μ _ (by omega)
  have e12 : (sI μ 0 34 0).1 0 12 = 0 := by rw [sI_s, upd_n _ _ (by omega)]; exact h12
  have H : ExH f n t l0 D0 base rel p c R 0 k [] [] σ (sI μ 0 34 0) := ⟨by rw [List.append_nil]; exact P, hR, ⟨e12, by rw [sI_s, upd_s]; rfl, trivial, by rw [sI_s, upd_n _ _ (by omega)]; exact h30, trivial, by show c + 0 + 0 ≤ 401; omega, hp, trivial, by decide⟩, ⟨trivial, by decide, rfl, fun o h => by cases h⟩, by rw [sI_s, upd_n _ _ (by omega)]; exact ht, by rw [sI_s, upd_n _ _ (by omega)]; exact hf, y.tks T, hE, hk, by show c + 0 + 0 ≤ k; omega⟩
  obtain ⟨μ', r1, r2, r3⟩ := (ex_sim (F := F) (t := t) (a2 := a2) (f := f) (n := n) (l0 := l0) (D0 := D0) (base := base) (rel := rel) (p := p) (c := c) (R := R) hF hR2 hb 100000).1 k [] [] σ _ (by omega) H
  refine ⟨μ', ?_, y.trans r2, r3⟩
  unfold fX6_expression
  rw [qlet_e, qlet_e, e12]
  exact r1
