-- ===== the variables: the class's =====
theorem cl_0 : (0 : Int32).toNatClampNeg = 0 := by decide
theorem cl_1 : (1 : Int32).toNatClampNeg = 1 := by decide
theorem cl_2 : (2 : Int32).toNatClampNeg = 2 := by decide
theorem cl_3 : (3 : Int32).toNatClampNeg = 3 := by decide
theorem cl_4 : (4 : Int32).toNatClampNeg = 4 := by decide
theorem cl_5 : (5 : Int32).toNatClampNeg = 5 := by decide
theorem cl_6 : (6 : Int32).toNatClampNeg = 6 := by decide
theorem cl_7 : (7 : Int32).toNatClampNeg = 7 := by decide
theorem cl_8 : (8 : Int32).toNatClampNeg = 8 := by decide
theorem cl_9 : (9 : Int32).toNatClampNeg = 9 := by decide
theorem cl_10 : (10 : Int32).toNatClampNeg = 10 := by decide
theorem cl_11 : (11 : Int32).toNatClampNeg = 11 := by decide
theorem cl_12 : (12 : Int32).toNatClampNeg = 12 := by decide
theorem cl_13 : (13 : Int32).toNatClampNeg = 13 := by decide
theorem cl_14 : (14 : Int32).toNatClampNeg = 14 := by decide
theorem cl_15 : (15 : Int32).toNatClampNeg = 15 := by decide
theorem qv_6 {β : Type} {b : Option β} : qix (6 : Int32) 14 b = b := qix_nI (k := 6) (by omega) (by omega)
theorem qv_7 {β : Type} {b : Option β} : qix (7 : Int32) 14 b = b := qix_nI (k := 7) (by omega) (by omega)
theorem qv_8 {β : Type} {b : Option β} : qix (8 : Int32) 14 b = b := qix_nI (k := 8) (by omega) (by omega)
theorem qv_9 {β : Type} {b : Option β} : qix (9 : Int32) 14 b = b := qix_nI (k := 9) (by omega) (by omega)
theorem qv_10 {β : Type} {b : Option β} : qix (10 : Int32) 14 b = b := qix_nI (k := 10) (by omega) (by omega)
theorem qv_11 {β : Type} {b : Option β} : qix (11 : Int32) 14 b = b := qix_nI (k := 11) (by omega) (by omega)
theorem qv_12 {β : Type} {b : Option β} : qix (12 : Int32) 14 b = b := qix_nI (k := 12) (by omega) (by omega)
theorem qv_13 {β : Type} {b : Option β} : qix (13 : Int32) 14 b = b := qix_nI (k := 13) (by omega) (by omega)
theorem qm_0 {β : Type} {b : Option β} : qix (0 : Int32) 8 b = b := qix_nI (k := 0) (by omega) (by omega)
theorem qm_1 {β : Type} {b : Option β} : qix (1 : Int32) 8 b = b := qix_nI (k := 1) (by omega) (by omega)
theorem qm_2 {β : Type} {b : Option β} : qix (2 : Int32) 8 b = b := qix_nI (k := 2) (by omega) (by omega)
theorem qm_3 {β : Type} {b : Option β} : qix (3 : Int32) 8 b = b := qix_nI (k := 3) (by omega) (by omega)
theorem qm_4 {β : Type} {b : Option β} : qix (4 : Int32) 8 b = b := qix_nI (k := 4) (by omega) (by omega)
theorem qm_5 {β : Type} {b : Option β} : qix (5 : Int32) 8 b = b := qix_nI (k := 5) (by omega) (by omega)
theorem qm_6 {β : Type} {b : Option β} : qix (6 : Int32) 8 b = b := qix_nI (k := 6) (by omega) (by omega)
theorem qm_7 {β : Type} {b : Option β} : qix (7 : Int32) 8 b = b := qix_nI (k := 7) (by omega) (by omega)
/-- what askVars may change -/
def KeepV (σ σ' : St) : Prop := (∀ i, i ≠ 36 → i ≠ 59 → σ'.1 i = σ.1 i) ∧ (∀ i, i ≠ 8 → σ'.1 36 i = σ.1 36 i) ∧ (∀ i, i ≠ 7 → i ≠ 8 → i ≠ 9 → σ'.1 59 i = σ.1 59 i) ∧ σ'.2 = σ.2
theorem KeepV.rf (σ : St) : KeepV σ σ := ⟨fun _ _ _ => rfl, fun _ _ => rfl, fun _ _ _ _ => rfl, rfl⟩
theorem KeepV.trans {a b c : St} (h : KeepV a b) (g : KeepV b c) : KeepV a c := ⟨fun i h1 h2 => (g.1 i h1 h2).trans (h.1 i h1 h2), fun i h1 => (g.2.1 i h1).trans (h.2.1 i h1), fun i h1 h2 h3 => (g.2.2.1 i h1 h2 h3).trans (h.2.2.1 i h1 h2 h3), g.2.2.2.trans h.2.2.2⟩
theorem Judged.congr {σ σ' μ : St} {mo n : Nat} (J : Judged σ μ mo n) (h1 : σ'.1 21 8 = σ.1 21 8) (h2 : σ'.1 32 = σ.1 32) : Judged σ' μ mo n := ⟨by rw [h1]; exact J.1, fun k hk => by rw [h2]; exact J.2 k hk⟩
theorem KeepV.W {σ σ' μ : St} {mo la : Nat} (h : KeepV σ σ') (W : InvW σ μ mo la) : InvW σ' μ mo la := W.congr (fun i h1 h2 => h.1 i (by omega) (by omega))
theorem KeepV.F {σ σ' μ : St} {la wn fn : Nat} (h : KeepV σ σ') (F : InvF σ μ la wn fn) : InvF σ' μ la wn fn := F.congr (fun i h1 h2 => h.1 i (by omega) (by omega)) (by rw [h.1 21 (by omega) (by omega)]) (by rw [h.1 21 (by omega) (by omega)])
theorem KeepV.J {σ σ' μ : St} {mo n : Nat} (h : KeepV σ σ') (J : Judged σ μ mo n) : Judged σ' μ mo n := J.congr (by rw [h.1 21 (by omega) (by omega)]) (h.1 32 (by omega) (by omega))
def SeersC (σ μ : St) (mo l : Nat) (d e : Int32) (n k : Nat) : Prop :=
  (∃ b : Nat, σ.1 36 8 = nI b ∧ ∀ w, w < 12 → (b.testBit w = true ↔ seerS μ mo l d e n k w)) ∧ σ.1 59 7 = sS (seerS μ mo l d e n k) 12 ∧ σ.1 59 8 = sW (seerS μ mo l d e n k) (fun w => worthS μ mo w d n) 12 ∧ σ.1 59 9 = sB (seerS μ mo l d e n k) (fun w => worthS μ mo w d n) 12
theorem fX1_countSeer_is {σ μ : St} {mo la wn fn n l k w d : Nat} {e : Int32} (F : InvF σ μ la wn fn) (J : Judged σ μ mo n) (hn : n ≤ fn) (hw : w < 12) (hh : hearS μ mo l (nI d) e n k) (hk : μ.1 30 k = nI w) (S : SeersC σ μ mo l (nI d) e n k) : ∃ σ', fX1_countSeer σ (nI w) (nI d) = some (0, σ') ∧ KeepV σ σ' ∧ SeersC σ' μ mo l (nI d) e n (k + 1) := by
  obtain ⟨⟨b, hb, hbit⟩, s7, s8, s9⟩ := S
  have hy := seerS_yes hh hk (show w < 2 ^ 31 by omega) (fun _ _ => trivial)
  unfold fX1_countSeer
  simp only [qlet, bitI w hw, hb]
  by_cases q : nI b &&& nI (2 ^ w) = 0
  · have hnp : ¬ seerS μ mo l (nI d) e n k w := fun z => by
      have := (hbit w hw).mpr z
      rw [(fa_bit (by omega)).mp q] at this
      exact absurd this (by decide)
    rw [if_pos q, fX0_worthOn_is (F.congr (fun i h1 h2 => sI_n _ _ _ _ (by omega)) (by rw [sI_n _ _ _ _ (by omega)]) (by rw [sI_n _ _ _ _ (by omega)])) hn (J.congr (by rw [sI_n _ _ _ _ (by omega)]) (sI_n _ _ _ _ (by omega))) (by omega), qcall_s]
    simp only [qv_7, qv_8, qv_9, cl_7, cl_8, cl_9]
    obtain ⟨a1, a2, a3⟩ := s_add (P := seerS μ mo l (nI d) e n k) (f := fun w => worthS μ mo w (nI d) n) hnp (N := 12) hw
    obtain ⟨c1, c2, c3⟩ := s_cong (f := fun w => worthS μ mo w (nI d) n) (N := 12) hy
    refine ⟨_, rfl, ⟨fun i h1 h2 => ?_, fun i h1 => ?_, fun i h1 h2 h3 => ?_, rfl⟩, ⟨b ||| 2 ^ w, ?_, fun v hv => ?_⟩, ?_, ?_, ?_⟩
    · rw [sI_n _ _ _ _ h2, sI_n _ _ _ _ h2, sI_n _ _ _ _ h2, sI_n _ _ _ _ h1]
    · rw [sI_n _ _ _ _ (by omega), sI_n _ _ _ _ (by omega), sI_n _ _ _ _ (by omega), sI_s, upd_n _ _ h1]
    · rw [sI_s, upd_n _ _ h3, sI_s, upd_n _ _ h2, sI_s, upd_n _ _ h1, sI_n _ _ _ _ (by omega)]
    · rw [sI_n _ _ _ _ (by omega), sI_n _ _ _ _ (by omega), sI_n _ _ _ _ (by omega), sI_s, upd_s, fa_or]
    · rw [fb_bit_set, hy v hv, Bool.or_eq_true, decide_eq_true_eq, hbit v hv]
      rfl
    · rw [sI_s, upd_n _ _ (by omega), sI_s, upd_n _ _ (by omega), sI_s, upd_s, sI_n _ _ _ _ (by omega), s7, c1, a1]
    · rw [sI_s, upd_n _ _ (by omega), sI_s, upd_s, sI_s, upd_n _ _ (by omega), sI_n _ _ _ _ (by omega), s8, c2, a2]
    · rw [sI_s, upd_s, sI_s, upd_n _ _ (by omega), sI_s, upd_n _ _ (by omega), sI_n _ _ _ _ (by omega), s9, c3, a3]
  · have hp : seerS μ mo l (nI d) e n k w := (hbit w hw).mp (by
      cases hq : b.testBit w with
      | true => rfl
      | false => exact absurd ((fa_bit (by omega)).mpr hq) q)
    have hsame : ∀ v, v < 12 → (seerS μ mo l (nI d) e n (k + 1) v ↔ seerS μ mo l (nI d) e n k v) := fun v hv => (hy v hv).trans ⟨fun z => z.elim id (fun z => by rw [z]; exact hp), Or.inl⟩
    obtain ⟨c1, c2, c3⟩ := s_cong (f := fun w => worthS μ mo w (nI d) n) (N := 12) hsame
    rw [if_neg q]
    exact ⟨σ, rfl, KeepV.rf σ, ⟨b, hb, fun v hv => (hbit v hv).trans (hsame v hv).symm⟩, by rw [c1]; exact s7, by rw [c2]; exact s8, by rw [c3]; exact s9⟩
theorem fX1_askVars_run {μ : St} {mo la wn fn n l d e : Nat} (hn : n ≤ fn) (hl : l < 6) (hd : d < 400) (he : e < 400) : ∀ (j k m : Nat) (σ : St), InvW σ μ mo la → InvF σ μ la wn fn → Judged σ μ mo n → SeersC σ μ mo l (nI d) (nI e) n k → j + k = n → ∃ σ', fX1_askVars_L (nI l) (nI d) (nI e) (m + j) (nI k) σ = fX1_askVars_L (nI l) (nI d) (nI e) m (nI n) σ' ∧ KeepV σ σ' ∧ SeersC σ' μ mo l (nI d) (nI e) n n
  | 0, k, m, σ, W, F, J, S, ek => by
    have : k = n := by omega
    subst this
    exact ⟨σ, rfl, KeepV.rf σ, S⟩
  | j + 1, k, m, σ, W, F, J, S, ek => by
    have hfn := F.2.1
    rw [show m + (j + 1) = (m + j) + 1 by omega, fX1_askVars_L, J.1, if_neg (nI_ge (by omega) (by omega)), fX0_isHeard_is W F J hn (by omega) hl hd he, qcall_s]
    simp only [qlet, nI_1]
    by_cases h : hearS μ mo l (nI d) (nI e) n k
    · rw [if_pos h, if_neg (by decide), qix_nI (show k < 300 by omega) (by omega), nI_clamp (by omega)]
      obtain ⟨f1, f2, f3, f4, f5, f6, f7, f8, f9⟩ := id F
      obtain ⟨-, q2, w, hw, q3⟩ := (f8 k (by omega)).2.2.resolve_right (fun q => by have := h.1; rw [q.1] at this; exact absurd this (by decide))
      rw [q2, q3]
      obtain ⟨σ1, a1, a2, a3⟩ := fX1_countSeer_is F J hn (by omega) h q3 S
      rw [a1, qcall_s]
      obtain ⟨σ2, b1, b2, b3⟩ := fX1_askVars_run hn hl hd he j (k + 1) m σ1 (a2.W W) (a2.F F) (a2.J J) a3 (by omega)
      exact ⟨σ2, b1, a2.trans b2, b3⟩
    · rw [if_neg h, if_pos rfl]
      obtain ⟨σ2, b1, b2, b3⟩ := fX1_askVars_run hn hl hd he j (k + 1) m σ W F J (by unfold SeersC; rw [seerS_no h]; exact S) (by omega)
      exact ⟨σ2, b1, b2, b3⟩
