-- ===== the class begins and ends a rule =====
theorem offC_mono (K : Nat → Rule) : ∀ {a b : Nat}, a ≤ b → offC K a ≤ offC K b
  | a, 0, h => by
    have : a = 0 := by omega
    rw [this]
    exact Nat.le_refl _
  | a, b + 1, h => by
    by_cases q : a = b + 1
    · rw [q]
      exact Nat.le_refl _
    · have := offC_mono K (a := a) (b := b) (by omega)
      rw [offC]
      omega
theorem TxC.xc {σ σ' : St} {t R : Nat} {K : Nat → Rule} (T : TxC σ t R K) (x : XC t (offC K R) σ σ') : TxC σ' t R K := by
  refine ⟨by rw [x.2.1 5 (by omega)]; exact T.1, fun r hr => ?_⟩
  obtain ⟨a1, a2, a3, a4⟩ := T.2 r hr
  have m := offC_mono K (show r + 1 ≤ R by omega)
  rw [x.1 _ (by omega) (by omega) (by omega) (by omega), x.1 (61 + 5 * t + 2) (by omega) (by omega) (by omega) (by omega)]
  refine ⟨a1, a2, a3, HasC_congr a4 (fun i h1 h2 => x.2.2.1 i ?_)⟩
  rw [offC] at m
  omega
def addK (K : Nat → Rule) (R : Nat) (r : Rule) : Nat → Rule := fun i => if i = R then r else K i
theorem addK_s (K : Nat → Rule) (R : Nat) (r : Rule) : addK K R r R = r := if_pos rfl
theorem addK_n (K : Nat → Rule) {R i : Nat} (r : Rule) (h : i ≠ R) : addK K R r i = K i := if_neg h
theorem offC_add (K : Nat → Rule) (R : Nat) (r : Rule) : ∀ {i : Nat}, i ≤ R → offC (addK K R r) i = offC K i
  | 0, _ => rfl
  | i + 1, h => by rw [offC, offC, offC_add K R r (by omega), addK_n K r (by omega)]
theorem offR_add (K : Nat → Rule) (R : Nat) (r : Rule) : ∀ {i : Nat}, i ≤ R → offR (addK K R r) i = offR K i
  | 0, _ => rfl
  | i + 1, h => by rw [offR, offR, offR_add K R r (by omega), addK_n K r (by omega)]
theorem take_rule {σ : St} {f : Nat → Int32} {n t k R d : Nat} {K : Nat → Rule} {rel : Bool} {D : List Op} {W : List Nat} (P : PT σ f n t (offC K R) k D W d rel) (T : TxC σ t R K) (hk : k < 400) (hR : R < 12) {kd : Nat} (h : tkK f n k = kd) (hkd : kd ≤ 2) : ∃ σ', fX2_takeToken σ t = some (0, σ') ∧ PC σ' f n t (offC K R) (k + 1) D W d rel ∧ TxC σ' t R K ∧ σ'.1 (61 + 5 * t + 1) R = nI kd ∧ (∀ i, i ≠ 61 + 5 * t + 1 → σ'.1 i = σ.1 i) ∧ σ'.2 = σ.2 := by
  obtain ⟨t1, t2, t3, t4, t5, t6, t7, t8, t9, t10⟩ := id P
  rw [h] at t8
  have e : ∀ i, i ≠ 61 + 5 * t + 1 → (sI σ (61 + 5 * t + 1) R (nI kd)).1 i = σ.1 i := fun i hi => sI_n _ _ _ _ hi
  obtain ⟨p1, p2, p3, p4, p5, p6, p7, p8⟩ := t7
  refine ⟨sI σ (61 + 5 * t + 1) R (nI kd), ?_, ⟨by rw [e 1 (by omega)]; exact t1, ⟨by rw [e 34 (by omega)]; exact t2.1, t2.2⟩, by rw [e 34 (by omega)]; exact t3, by rw [e 34 (by omega)]; exact t4, t5, by rw [e 34 (by omega)]; exact t6, ⟨by rw [e _ (by omega)]; exact p1, by rw [e _ (by omega)]; exact p2, by rw [e _ (by omega)]; exact p3, by rw [e _ (by omega)]; exact p4, by omega, by omega, p7, p8⟩⟩, ⟨by rw [e _ (by omega)]; exact T.1, fun r hr => ?_⟩, by rw [sI_s, upd_s], e, rfl⟩
  · unfold fX2_takeToken
    rw [rw_is t8 (by omega), qcall_s, qlet_e, if_neg (by rw [decide_eq_true hkd]; decide), t8]
    unfold fX3_openRule
    rw [qlet_e, T.1, if_neg (show ¬ (12 : Int32) ≤ nI R from nI_ge (b := 12) hR (by omega)), qix_nI hR (by omega), nI_clamp (by omega), qlet_e, qcall_s]
  · rw [sI_s, upd_n _ _ (by omega), e _ (by omega), e _ (by omega)]
    exact T.2 r hr
theorem take_semi {σ : St} {f : Nat → Int32} {n t k R s : Nat} {K : Nat → Rule} {rs : List Rel} {D : List Op} {W : List Nat} (P : PT σ f n t (offC K R) k D W 0 true) (T : TxC σ t R K) (hs : σ.1 (61 + 5 * t + 1) R = nI s) (hk : k < 400) (hR : R < 12) (h : tkK f n k = 15) (hD : D ++ (popB 1 W).1.map Op.bin = (cc rs true).1) (hW : (popB 1 W).2 = []) : ∃ σ', fX2_takeToken σ t = some (0, σ') ∧ PC σ' f n t (offC (addK K R (s, rs)) (R + 1)) (k + 1) [] [] 0 false ∧ TxC σ' t (R + 1) (addK K R (s, rs)) ∧ (∀ i, i ≠ 34 → i ≠ 35 → ¬ (61 + 5 * t ≤ i ∧ i ≤ 61 + 5 * t + 3) → σ'.1 i = σ.1 i) ∧ σ'.2 = σ.2 := by
  obtain ⟨t1, t2, t3, t4, t5, t6, t7, t8, t9, t10⟩ := id P
  rw [h] at t8
  obtain ⟨σ1, a1, a2, a3, a4⟩ := emit_is (b := 1) (by omega) (by omega) t7 (by omega)
  rw [hD, hW] at a2
  have T1 := T.xc a3
  have hs1 : σ1.1 (61 + 5 * t + 1) R = nI s := by rw [a3.1 _ (by omega) (by omega) (by omega) (by omega)]; exact hs
  obtain ⟨p1, p2, p3, p4, p5, p6, p7, p8⟩ := a2
  have oK : offC (addK K R (s, rs)) (R + 1) = offC K R + (cc rs true).1.length := by rw [offC, offC_add _ _ _ (Nat.le_refl _), addK_s]
  generalize hτ : sI σ1 34 8 0 = τ
  have e1 : ∀ i, i ≠ 34 → τ.1 i = σ1.1 i := fun i hi => by rw [← hτ]; exact sI_n _ _ _ _ hi
  have e2 : ∀ i, i ≠ 8 → τ.1 34 i = σ1.1 34 i := fun i hi => by rw [← hτ, sI_s, upd_n _ _ hi]
  have e8 : τ.1 34 8 = 0 := by rw [← hτ, sI_s, upd_s]
  have e22 : τ.2 = σ1.2 := by rw [← hτ]; rfl
  have g4 : τ.1 (61 + 5 * t) 4 = nI (offC K R + (cc rs true).1.length) := by rw [e1 _ (by omega)]; exact p1
  have g5 : τ.1 (61 + 5 * t) 5 = nI R := by rw [e1 _ (by omega)]; exact T1.1
  generalize hω : sI (sI τ (61 + 5 * t + 2) R (nI (offC K R + (cc rs true).1.length))) (61 + 5 * t) 5 (nI (R + 1)) = ω
  have f1 : ∀ i, i ≠ 61 + 5 * t + 2 → i ≠ 61 + 5 * t → ω.1 i = τ.1 i := fun i h1 h2 => by rw [← hω, sI_n _ _ _ _ h2, sI_n _ _ _ _ h1]
  have f0 : ∀ i, i ≠ 5 → ω.1 (61 + 5 * t) i = τ.1 (61 + 5 * t) i := fun i hi => by rw [← hω, sI_s, upd_n _ _ hi, sI_n _ _ _ _ (by omega)]
  have f5 : ω.1 (61 + 5 * t) 5 = nI (R + 1) := by rw [← hω, sI_s, upd_s]
  have f2 : ω.1 (61 + 5 * t + 2) = upd (τ.1 (61 + 5 * t + 2)) R (nI (offC K R + (cc rs true).1.length)) := by rw [← hω, sI_n _ _ _ _ (by omega), sI_s]
  have f22 : ω.2 = τ.2 := by rw [← hω]; rfl
  refine ⟨ω, ?_, ⟨?_, ⟨?_, t2.2⟩, ?_, ?_, t5, ?_, ⟨?_, trivial, ?_, trivial, ?_, by omega, by decide, fun y hy => by cases hy⟩⟩, ⟨f5, fun r hr => ?_⟩, fun i h1 h2 h3 => ?_, by rw [f22, e22, a3.2.2.2.2]⟩
  · have cl : fX3_closeRule τ t = some (0, ω) := by
      have g : (sI τ (61 + 5 * t + 2) R (nI (offC K R + (cc rs true).1.length))).1 (61 + 5 * t) 5 = nI R := by rw [sI_n _ _ _ _ (by omega)]; exact g5
      unfold fX3_closeRule
      rw [qlet_e, g5, if_neg (show ¬ (12 : Int32) ≤ nI R from nI_ge (b := 12) hR (by omega)), qix_nI hR (by omega), nI_clamp (by omega), g4, qlet_e, g, nI_1, hω, qlet_e]
    rw [take_rest t8 (by omega) (by omega), if_neg (by omega), if_neg (by omega), if_pos rfl, show (4 : Int32) = nI 4 from rfl, bond_is (by omega), qcall_s, show bondN 4 = 1 from rfl, a1, qcall_s, qzz_0, hτ, qlet_e, cl, qcall_s]
  · rw [f1 1 (by omega) (by omega), e1 1 (by omega), a3.1 1 (by omega) (by omega) (by omega) (by omega)]
    exact t1
  · rw [f1 34 (by omega) (by omega), e2 3 (by omega), a3.2.2.2.1 3 rfl]
    exact t2.1
  · rw [f1 34 (by omega) (by omega), e2 4 (by omega), a4 4 (by omega)]
    exact t3
  · rw [f1 34 (by omega) (by omega), e2 7 (by omega), a4 7 (by omega)]
    exact t4
  · rw [f1 34 (by omega) (by omega)]
    exact e8
  · rw [f0 4 (by omega), g4, oK]
    rfl
  · rw [f1 34 (by omega) (by omega), e2 1 (by omega)]
    exact p3
  · rw [oK]
    show offC K R + (cc rs true).1.length + 0 + 0 ≤ k + 1
    have : ([] : List Nat).length = 0 := rfl
    omega
  · rw [f1 _ (by omega) (by omega), e1 _ (by omega), f2, f1 _ (by omega) (by omega), e1 (61 + 5 * t + 3) (by omega)]
    by_cases q : r = R
    · subst q
      rw [addK_s, upd_s, oK, offC_add _ _ _ (Nat.le_refl _)]
      exact ⟨hs1, rfl, by have : ([] : List Nat).length = 0 := rfl; omega, p2⟩
    · rw [addK_n _ _ q, upd_n _ _ q, e1 _ (by omega), offC_add _ _ _ (by omega), offC_add _ _ _ (by omega)]
      exact T1.2 r (by omega)
  · rw [f1 i (by omega) (by omega), e1 i h1, a3.1 i h1 h2 (by omega) (by omega)]
