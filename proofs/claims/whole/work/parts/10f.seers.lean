-- ===== those who are heard: how many, their worths together, the best =====
noncomputable def sS (P : Nat → Prop) : Nat → Int32
  | 0 => 0
  | w + 1 => by classical exact if P w then sS P w + 1 else sS P w
noncomputable def sW (P : Nat → Prop) (f : Nat → Int32) : Nat → Int32
  | 0 => 0
  | w + 1 => by classical exact if P w then sW P f w + f w else sW P f w
noncomputable def sB (P : Nat → Prop) (f : Nat → Int32) : Nat → Int32
  | 0 => 0
  | w + 1 => by classical exact if P w then (if f w ≤ sB P f w then sB P f w else f w) else sB P f w
def addP (P : Nat → Prop) (w : Nat) : Nat → Prop := fun j => P j ∨ j = w
theorem s_low {P : Nat → Prop} {w : Nat} {f : Nat → Int32} : ∀ {N : Nat}, N ≤ w → sS (addP P w) N = sS P N ∧ sW (addP P w) f N = sW P f N ∧ sB (addP P w) f N = sB P f N
  | 0, _ => ⟨rfl, rfl, rfl⟩
  | N + 1, h => by
    obtain ⟨h1, h2, h3⟩ := s_low (P := P) (w := w) (f := f) (N := N) (by omega)
    have e : addP P w N = P N := propext ⟨fun q => q.elim id (fun q => by omega), Or.inl⟩
    rw [sS, sS, sW, sW, sB, sB, h1, h2, h3, e]
    exact ⟨rfl, rfl, rfl⟩
theorem max_swap (a b c : Int32) : (if b ≤ (if a < c then c else a) then (if a < c then c else a) else b) = (if (if b ≤ a then a else b) < c then c else (if b ≤ a then a else b)) := by
  have l1 := fa_lt a c
  have l2 := fa_le b a
  by_cases q1 : a < c <;> by_cases q2 : b ≤ a
  · simp only [if_pos q1, if_pos q2]
    rw [if_pos ((fa_le b c).mpr (by have := l1.mp q1; have := l2.mp q2; omega))]
  · simp only [if_pos q1, if_neg q2]
    have := fa_le b c
    have := fa_lt b c
    by_cases q3 : b ≤ c
    · rw [if_pos q3]
      by_cases q4 : b < c
      · rw [if_pos q4]
      · rw [if_neg q4]
        exact (fa_eq _ _).mpr (by rw [fa_le] at q3; rw [fa_lt] at q4; omega)
    · rw [if_neg q3, if_neg (by rw [fa_lt]; rw [fa_le] at q3; omega)]
  · simp only [if_neg q1, if_pos q2]
  · simp only [if_neg q1, if_neg q2]
    rw [if_neg (by rw [fa_lt]; rw [fa_le] at q2; rw [fa_lt] at q1; omega)]
theorem s_add {P : Nat → Prop} {w : Nat} {f : Nat → Int32} (hw : ¬ P w) : ∀ {N : Nat}, w < N → sS (addP P w) N = sS P N + 1 ∧ sW (addP P w) f N = sW P f N + f w ∧ sB (addP P w) f N = (if sB P f N < f w then f w else sB P f N)
  | 0, h => absurd h (by omega)
  | N + 1, h => by
    rcases Nat.lt_or_ge w N with q | q
    · obtain ⟨h1, h2, h3⟩ := s_add (P := P) (w := w) (f := f) hw (N := N) q
      have e : addP P w N = P N := propext ⟨fun q => q.elim id (fun q => by omega), Or.inl⟩
      rw [sS, sS, sW, sW, sB, sB, h1, h2, h3, e]
      by_cases p : P N
      · simp only [if_pos p]
        refine ⟨?_, ?_, max_swap _ _ _⟩
        · trivial
        · rw [Int32.add_assoc, Int32.add_comm (f w), ← Int32.add_assoc]
      · simp only [if_neg p]
        exact ⟨trivial, trivial, trivial⟩
    · have ew : w = N := by omega
      subst ew
      obtain ⟨h1, h2, h3⟩ := s_low (P := P) (w := w) (f := f) (N := w) (Nat.le_refl _)
      have e : addP P w w := Or.inr rfl
      rw [sS, sS, sW, sW, sB, sB, h1, h2, h3, if_pos e, if_pos e, if_pos e, if_neg hw, if_neg hw, if_neg hw]
      refine ⟨rfl, rfl, ?_⟩
      by_cases p : f w ≤ sB P f w
      · rw [if_pos p, if_neg (by rw [fa_lt]; rw [fa_le] at p; omega)]
      · rw [if_neg p, if_pos (by rw [fa_lt]; rw [fa_le] at p; omega)]
theorem s_none {f : Nat → Int32} : ∀ N, sS (fun _ => False) N = 0 ∧ sW (fun _ => False) f N = 0 ∧ sB (fun _ => False) f N = 0
  | 0 => ⟨rfl, rfl, rfl⟩
  | N + 1 => by
    obtain ⟨h1, h2, h3⟩ := s_none (f := f) N
    rw [sS, sW, sB, if_neg (fun q => q), if_neg (fun q => q), if_neg (fun q => q)]
    exact ⟨h1, h2, h3⟩
theorem s_ext {P : Nat → Prop} {f : Nat → Int32} {M : Nat} (h : ∀ w, M ≤ w → ¬ P w) : ∀ j, sS P (M + j) = sS P M ∧ sW P f (M + j) = sW P f M ∧ sB P f (M + j) = sB P f M
  | 0 => ⟨rfl, rfl, rfl⟩
  | j + 1 => by
    obtain ⟨h1, h2, h3⟩ := s_ext (f := f) h j
    have hn := h (M + j) (by omega)
    rw [show M + (j + 1) = (M + j) + 1 by omega, sS, sW, sB, if_neg hn, if_neg hn, if_neg hn]
    exact ⟨h1, h2, h3⟩
theorem bitI : ∀ w, w < 12 → (1 : Int32) <<< (nI w &&& 31) = nI (2 ^ w) := by decide +kernel
/-- w is the witness of one of the first k facts that are heard -/
noncomputable def seerS (μ : St) (mo l : Nat) (d e : Int32) (n k : Nat) : Nat → Prop := fun w => ∃ j, j < k ∧ hearS μ mo l d e n j ∧ μ.1 30 j = nI w
theorem seerS_0 {μ : St} {mo l : Nat} {d e : Int32} {n : Nat} : seerS μ mo l d e n 0 = fun _ => False := funext fun w => propext ⟨fun ⟨j, hj, _⟩ => absurd hj (by omega), fun h => h.elim⟩
theorem seerS_no {μ : St} {mo l : Nat} {d e : Int32} {n k : Nat} (h : ¬ hearS μ mo l d e n k) : seerS μ mo l d e n (k + 1) = seerS μ mo l d e n k := funext fun w => propext ⟨fun ⟨j, hj, q⟩ => by
    by_cases ej : j = k
    · subst ej
      exact absurd q.1 h
    · exact ⟨j, by omega, q⟩, fun ⟨j, hj, q⟩ => ⟨j, by omega, q⟩⟩
theorem seerS_yes {μ : St} {mo l : Nat} {d e : Int32} {n k w : Nat} (h : hearS μ mo l d e n k) (hw : μ.1 30 k = nI w) (hw2 : w < 2 ^ 31) (hb : ∀ v, v < 2 ^ 31 → True) : ∀ v, v < 12 → (seerS μ mo l d e n (k + 1) v ↔ addP (seerS μ mo l d e n k) w v) := fun v hv => ⟨fun ⟨j, hj, q⟩ => by
    by_cases ej : j = k
    · subst ej
      right
      have := q.2
      rw [hw] at this
      exact ((nI_eq hw2 (by omega)).mp this).symm
    · exact Or.inl ⟨j, by omega, q⟩, fun q => q.elim (fun ⟨j, hj, q⟩ => ⟨j, by omega, q⟩) (fun e => ⟨k, by omega, h, by rw [e]; exact hw⟩)⟩
theorem s_cong {P Q : Nat → Prop} {f : Nat → Int32} : ∀ {N : Nat}, (∀ v, v < N → (P v ↔ Q v)) → sS P N = sS Q N ∧ sW P f N = sW Q f N ∧ sB P f N = sB Q f N
  | 0, _ => ⟨rfl, rfl, rfl⟩
  | N + 1, h => by
    obtain ⟨h1, h2, h3⟩ := s_cong (f := f) (N := N) (fun v hv => h v (by omega))
    have e : P N = Q N := propext (h N (by omega))
    rw [sS, sS, sW, sW, sB, sB, h1, h2, h3, e]
    exact ⟨rfl, rfl, rfl⟩
