-- ===== the class's code, and its worth =====
def cO : Op → Int32
  | Sum.inl v => nI v
  | Sum.inr (Sum.inl i) => nI (10006 + i)
  | Sum.inr (Sum.inr k) => nI (10000 + k)
def HasC (f : Nat → Int32) : Nat → List Op → Prop
  | _, [] => True
  | c, o :: r => f c = cO o ∧ HasC f (c + 1) r
def HasS (f : Nat → Int32) : List Int32 → Prop
  | [] => True
  | x :: r => f r.length = x ∧ HasS f r
theorem HasC_app {f : Nat → Int32} : ∀ {A B : List Op} {c : Nat}, HasC f c (A ++ B) ↔ HasC f c A ∧ HasC f (c + A.length) B
  | [], B, c => by simp [HasC]
  | o :: r, B, c => by
    rw [List.cons_append, HasC, HasC, HasC_app, List.length_cons, show c + 1 + r.length = c + (r.length + 1) by omega, and_assoc]
theorem HasC_congr {f g : Nat → Int32} : ∀ {A : List Op} {c : Nat}, HasC f c A → (∀ i, c ≤ i → i < c + A.length → g i = f i) → HasC g c A
  | [], c, _, _ => trivial
  | o :: r, c, h, e => by
    rw [List.length_cons] at e
    exact ⟨by rw [e c (by omega) (by omega)]; exact h.1, HasC_congr h.2 (fun i h1 h2 => e i (by omega) (by omega))⟩
theorem HasS_congr {f g : Nat → Int32} : ∀ {A : List Int32}, HasS f A → (∀ i, i < A.length → g i = f i) → HasS g A
  | [], _, _ => trivial
  | x :: r, h, e => by
    rw [List.length_cons] at e
    exact ⟨by rw [e _ (by omega)]; exact h.1, HasS_congr h.2 (fun i h1 => e i (by omega))⟩
theorem HasS_push {f : Nat → Int32} {s : List Int32} (h : HasS f s) (x : Int32) : HasS (upd f s.length x) (x :: s) := ⟨upd_s _ _ _, HasS_congr h (fun i hi => upd_n _ _ (by omega))⟩
set_option maxHeartbeats 40000 in
theorem isVar_y {σ : St} {k : Nat} (h1 : 6 ≤ k) (h2 : k ≤ 13) : fX3_isVar σ (nI k) = some (1, σ) := by
  unfold fX3_isVar
  simp only [qlet]
  rw [if_neg (show ¬ nI k < 6 from nI_nlt (b := 6) h1 (by omega)), if_neg (show ¬ 13 < nI k from nI_nlt (a := 13) h2 (by omega))]
  rfl
set_option maxHeartbeats 40000 in
theorem isVar_n {σ : St} {k : Nat} (h : k < 6 ∨ 13 < k) (hk : k < 2 ^ 31) : fX3_isVar σ (nI k) = some (0, σ) := by
  unfold fX3_isVar
  simp only [qlet]
  by_cases q : k < 6
  · rw [if_pos (show nI k < 6 from nI_lt (b := 6) q (by omega))]
    rfl
  · rw [if_neg (show ¬ nI k < 6 from nI_nlt (b := 6) (by omega) (by omega)), if_pos (show 13 < nI k from nI_lt (a := 13) (by omega) (by omega))]
    rfl
set_option maxHeartbeats 40000 in
theorem apply_is {σ : St} {k : Nat} (h : k = 4 ∨ k = 5 ∨ (16 ≤ k ∧ k ≤ 22)) (a b : Int32) : fX3_apply σ (nI k) a b = some (appS k a b, σ) := by
  rcases (show k = 4 ∨ k = 5 ∨ k = 16 ∨ k = 17 ∨ k = 18 ∨ k = 19 ∨ k = 20 ∨ k = 21 ∨ k = 22 by omega) with rfl | rfl | rfl | rfl | rfl | rfl | rfl | rfl | rfl
  · rfl
  · rfl
  · rfl
  · rfl
  · rfl
  · show (if a = b then some ((1 : Int32), σ) else some (0, σ)) = some (if a = b then 1 else 0, σ)
    split <;> rfl
  · show (if a = b then some ((0 : Int32), σ) else some (1, σ)) = some (if a = b then 0 else 1, σ)
    split <;> rfl
  · show (if b ≤ a then some ((0 : Int32), σ) else some (1, σ)) = some (if b ≤ a then 0 else 1, σ)
    split <;> rfl
  · show (if b < a then some ((0 : Int32), σ) else some (1, σ)) = some (if b < a then 0 else 1, σ)
    split <;> rfl
set_option maxHeartbeats 40000 in
theorem holdsC_num {σ : St} {t r n k c e v : Nat} (hr : r < 12) (he : σ.1 (61 + 5 * t + 2) r = nI e) (hc : c < e) (he4 : e ≤ 400) (hk : k < 32) (hv : σ.1 (61 + 5 * t + 3) c = nI v) (hv4 : v < 10000) : fX3_holds_L t (nI r) (n + 1) (nI k) (nI c) σ = fX3_holds_L t (nI r) n (nI (k + 1)) (nI (c + 1)) (sI σ (61 + 5 * t + 4) k (nI v)) := by
  rw [fX3_holds_L, qix_nI hr (by omega), nI_clamp (by omega), he, if_neg (nI_ge hc (by omega)), qix_nI (by omega) (by omega), nI_clamp (by omega), hv]
  have q : nI v - (10000 : Int32) < 0 := pk_sneg (b := 10000) (by omega) hv4
  have q2 : ¬ (0 : Int32) ≤ nI v - (10000 : Int32) := (fa_of_lt q).2.1
  simp only [qlet_e, if_pos q, if_neg q2, if_neg (show ¬ (32 : Int32) ≤ nI k from nI_ge (b := 32) hk (by omega)), qix_nI (show c < 400 by omega) (show 400 ≤ 2 ^ 31 by omega), qix_nI hk (show 32 ≤ 2 ^ 31 by omega), nI_clamp (show k < 2 ^ 31 by omega), nI_clamp (show c < 2 ^ 31 by omega), nI_1, hv]
set_option maxHeartbeats 40000 in
theorem holdsC_var {σ : St} {t r n k c e i : Nat} (hr : r < 12) (he : σ.1 (61 + 5 * t + 2) r = nI e) (hc : c < e) (he4 : e ≤ 400) (hk : k < 32) (hv : σ.1 (61 + 5 * t + 3) c = nI (10006 + i)) (hi : i < 8) : fX3_holds_L t (nI r) (n + 1) (nI k) (nI c) σ = fX3_holds_L t (nI r) n (nI (k + 1)) (nI (c + 1)) (sI σ (61 + 5 * t + 4) k (σ.1 59 (6 + i))) := by
  rw [fX3_holds_L, qix_nI hr (by omega), nI_clamp (by omega), he, if_neg (nI_ge hc (by omega)), qix_nI (by omega) (by omega), nI_clamp (by omega), hv]
  have e1 : nI (10006 + i) - (10000 : Int32) = nI (6 + i) := by rw [show (10000 : Int32) = nI 10000 from rfl, pk_sub (by omega), show 10006 + i - 10000 = 6 + i by omega]
  simp only [qlet_e, e1, if_neg (nI_pos (show 6 + i < 2 ^ 31 by omega)), isVar_y (show 6 ≤ 6 + i by omega) (show 6 + i ≤ 13 by omega), qcall_s, if10, if_neg (show ¬ (32 : Int32) ≤ nI k from nI_ge (b := 32) hk (by omega)), if_pos (nI_pos' (show 6 + i < 2 ^ 31 by omega)), qix_nI (show 6 + i < 14 by omega) (show 14 ≤ 2 ^ 31 by omega), qix_nI hk (show 32 ≤ 2 ^ 31 by omega), nI_clamp (show k < 2 ^ 31 by omega), nI_clamp (show 6 + i < 2 ^ 31 by omega), nI_1]
set_option maxHeartbeats 40000 in
theorem holdsC_bin {σ : St} {t r n k c e o : Nat} (hr : r < 12) (he : σ.1 (61 + 5 * t + 2) r = nI e) (hc : c < e) (he4 : e ≤ 400) (hk : k + 2 ≤ 32) (hv : σ.1 (61 + 5 * t + 3) c = nI (10000 + o)) (ho : o = 4 ∨ o = 5 ∨ (16 ≤ o ∧ o ≤ 22)) : fX3_holds_L t (nI r) (n + 1) (nI (k + 2)) (nI c) σ = fX3_holds_L t (nI r) n (nI (k + 1)) (nI (c + 1)) (sI σ (61 + 5 * t + 4) k (appS o (σ.1 (61 + 5 * t + 4) k) (σ.1 (61 + 5 * t + 4) (k + 1)))) := by
  rw [fX3_holds_L, qix_nI hr (by omega), nI_clamp (by omega), he, if_neg (nI_ge hc (by omega)), qix_nI (by omega) (by omega), nI_clamp (by omega), hv]
  have e1 : nI (10000 + o) - (10000 : Int32) = nI o := by rw [show (10000 : Int32) = nI 10000 from rfl, pk_sub (by omega), show 10000 + o - 10000 = o by omega]
  simp only [qlet_e, e1, if_neg (nI_pos (show o < 2 ^ 31 by omega)), isVar_n (σ := σ) (show o < 6 ∨ 13 < o by omega) (show o < 2 ^ 31 by omega), qcall_s, if00, if_true, if_pos (show (2 : Int32) ≤ nI (k + 2) from nI_le (a := 2) (by omega) (by omega)), show nI (k + 2) + -1 = nI (k + 1) from pk_m1 (k + 1), nI_m1, qix_nI (show k < 32 by omega) (show 32 ≤ 2 ^ 31 by omega), qix_nI (show k + 1 < 32 by omega) (show 32 ≤ 2 ^ 31 by omega), nI_clamp (show k < 2 ^ 31 by omega), nI_clamp (show k + 1 < 2 ^ 31 by omega), apply_is ho, nI_1]
set_option maxHeartbeats 40000 in
theorem holdsC_end {σ : St} {t r n c : Nat} {x : Int32} (hr : r < 12) (he : σ.1 (61 + 5 * t + 2) r = nI c) (hs : σ.1 (61 + 5 * t + 4) 0 = x) : fX3_holds_L t (nI r) (n + 1) (nI 1) (nI c) σ = some (if x = 0 then 0 else 1, σ) := by
  rw [fX3_holds_L, qix_nI hr (by omega), nI_clamp (by omega), he, if_pos (by rw [fa_le]; exact Int.le_refl _)]
  simp only [qlet_e, if_pos (show nI 1 = 1 from rfl), show qix (0 : Int32) 32 = qix (β := Int32 × St) (nI 0) 32 from rfl, qix_nI (show 0 < 32 by omega) (show 32 ≤ 2 ^ 31 by omega), show (0 : Int32).toNatClampNeg = 0 from rfl, hs]
  by_cases q : x = 0
  · rw [if_pos q, if_pos q]
    rfl
  · rw [if_neg q, if_neg q]
    rfl
