-- ===== the class's code runs =====
theorem holdsC_run {t r : Nat} {V : Nat → Int32} (hr : r < 12) : ∀ (A : List Op) (s : List Int32) (c n : Nat) (σ : St), σ.1 (61 + 5 * t + 2) r = nI (c + A.length) → c + A.length ≤ 400 → (∀ o ∈ A, okOpC o) → HasC (σ.1 (61 + 5 * t + 3)) c A → HasS (σ.1 (61 + 5 * t + 4)) s → s.length ≤ 32 → (∀ i, i < 8 → σ.1 59 (6 + i) = V i) → dp 32 A s.length = some 1 → A.length < n → ∃ σ', fX3_holds_L t (nI r) n (nI s.length) (nI c) σ = some (if (ex V A s).headD 0 = 0 then 0 else 1, σ') ∧ (∀ i, i ≠ 61 + 5 * t + 4 → σ'.1 i = σ.1 i) ∧ σ'.2 = σ.2
  | [], s, c, n + 1, σ, he, _, _, _, hS, _, _, hd, _ => by
    rw [dp, Option.some.injEq] at hd
    match s, hd, hS with
    | [x], _, hS => exact ⟨σ, holdsC_end hr he hS.1, fun _ _ => rfl, rfl⟩
  | Sum.inl v :: rest, s, c, n + 1, σ, he, h4, ho, hC, hS, hs, hV, hd, hn => by
    rw [List.length_cons] at he h4 hn
    rw [dp] at hd
    split at hd
    · rename_i hk
      have hv : v < 10000 := ho _ List.mem_cons_self
      have e1 := holdsC_num (n := n) hr he (by omega) h4 hk hC.1 hv
      have j : ∀ i, i ≠ 61 + 5 * t + 4 → (sI σ (61 + 5 * t + 4) s.length (nI v)).1 i = σ.1 i := fun i hi => sI_n _ _ _ _ hi
      obtain ⟨σ', i1, i2, i3⟩ := holdsC_run (V := V) hr rest (nI v :: s) (c + 1) n (sI σ (61 + 5 * t + 4) s.length (nI v)) (by rw [j _ (by omega), he]; congr 1; omega) (by omega) (fun o h => ho o (List.mem_cons_of_mem _ h)) (by rw [j _ (by omega)]; exact hC.2) (by rw [sI_s]; exact HasS_push hS _) (by rw [List.length_cons]; omega) (fun i hi => by rw [j _ (by omega)]; exact hV i hi) hd (by omega)
      rw [List.length_cons] at i1
      exact ⟨σ', by rw [e1, i1]; rfl, fun i hi => (i2 i hi).trans (j i hi), i3⟩
    · cases hd
  | Sum.inr (Sum.inl v) :: rest, s, c, n + 1, σ, he, h4, ho, hC, hS, hs, hV, hd, hn => by
    rw [List.length_cons] at he h4 hn
    rw [dp] at hd
    split at hd
    · rename_i hk
      have hv : v < 8 := ho _ List.mem_cons_self
      have e1 := holdsC_var (n := n) hr he (by omega) h4 hk hC.1 hv
      rw [hV v hv] at e1
      have j : ∀ i, i ≠ 61 + 5 * t + 4 → (sI σ (61 + 5 * t + 4) s.length (V v)).1 i = σ.1 i := fun i hi => sI_n _ _ _ _ hi
      obtain ⟨σ', i1, i2, i3⟩ := holdsC_run (V := V) hr rest (V v :: s) (c + 1) n (sI σ (61 + 5 * t + 4) s.length (V v)) (by rw [j _ (by omega), he]; congr 1; omega) (by omega) (fun o h => ho o (List.mem_cons_of_mem _ h)) (by rw [j _ (by omega)]; exact hC.2) (by rw [sI_s]; exact HasS_push hS _) (by rw [List.length_cons]; omega) (fun i hi => by rw [j _ (by omega)]; exact hV i hi) hd (by omega)
      rw [List.length_cons] at i1
      exact ⟨σ', by rw [e1, i1]; rfl, fun i hi => (i2 i hi).trans (j i hi), i3⟩
    · cases hd
  | Sum.inr (Sum.inr o) :: rest, s, c, n + 1, σ, he, h4, ho, hC, hS, hs, hV, hd, hn => by
    rw [List.length_cons] at he h4 hn
    rw [dp] at hd
    split at hd
    · rename_i hk
      match s, hk, hS, hs, hd with
      | b :: a :: s, _, hS, hs, hd =>
        rw [List.length_cons, List.length_cons] at hs hd
        have hv := ho _ List.mem_cons_self
        have e1 := holdsC_bin (n := n) (k := s.length) hr he (by omega) h4 hs hC.1 hv
        have ea : σ.1 (61 + 5 * t + 4) s.length = a := hS.2.1
        have eb : σ.1 (61 + 5 * t + 4) (s.length + 1) = b := hS.1
        rw [ea, eb] at e1
        have j : ∀ i, i ≠ 61 + 5 * t + 4 → (sI σ (61 + 5 * t + 4) s.length (appS o a b)).1 i = σ.1 i := fun i hi => sI_n _ _ _ _ hi
        obtain ⟨σ', i1, i2, i3⟩ := holdsC_run (V := V) hr rest (appS o a b :: s) (c + 1) n (sI σ (61 + 5 * t + 4) s.length (appS o a b)) (by rw [j _ (by omega), he]; congr 1; omega) (by omega) (fun o h => ho o (List.mem_cons_of_mem _ h)) (by rw [j _ (by omega)]; exact hC.2) (by rw [sI_s]; exact HasS_push hS.2.2 _) (by rw [List.length_cons]; omega) (fun i hi => by rw [j _ (by omega)]; exact hV i hi) hd (by omega)
        rw [List.length_cons] at i1
        exact ⟨σ', by rw [List.length_cons, List.length_cons, e1, i1]; rfl, fun i hi => (i2 i hi).trans (j i hi), i3⟩
    · cases hd
-- ===== the reference's code, and its worth =====
def mK : Op → Int32
  | Sum.inl _ => 0
  | Sum.inr (Sum.inl _) => 1
  | Sum.inr (Sum.inr k) => nI (k - 14)
def mV : Op → Int32
  | Sum.inl v => nI v
  | Sum.inr (Sum.inl i) => nI i
  | Sum.inr (Sum.inr _) => 0
def HasM (f g : Nat → Int32) : Nat → List Op → Prop
  | _, [] => True
  | c, o :: r => (f c = mK o ∧ g c = mV o) ∧ HasM f g (c + 1) r
theorem HasM_app {f g : Nat → Int32} : ∀ {A B : List Op} {c : Nat}, HasM f g c (A ++ B) ↔ HasM f g c A ∧ HasM f g (c + A.length) B
  | [], B, c => by simp [HasM]
  | o :: r, B, c => by
    rw [List.cons_append, HasM, HasM, HasM_app, List.length_cons, show c + 1 + r.length = c + (r.length + 1) by omega]
    exact ⟨fun h => ⟨⟨h.1, h.2.1⟩, h.2.2⟩, fun h => ⟨h.1.1, h.1.2, h.2⟩⟩
theorem HasM_congr {f g f' g' : Nat → Int32} : ∀ {A : List Op} {c : Nat}, HasM f g c A → (∀ i, c ≤ i → i < c + A.length → f' i = f i ∧ g' i = g i) → HasM f' g' c A
  | [], c, _, _ => trivial
  | o :: r, c, h, e => by
    rw [List.length_cons] at e
    have := e c (by omega) (by omega)
    exact ⟨by rw [this.1, this.2]; exact h.1, HasM_congr h.2 (fun i h1 h2 => e i (by omega) (by omega))⟩
theorem valM_end {μ : St} {a1 : Int32} {n k c : Nat} {x : Int32} (hs : μ.1 39 0 = x) : fX6_value_L a1 (nI c) (n + 1) (nI k) (nI c) μ = some (x, μ) := by
  rw [fX6_value_L, if_pos (by rw [fa_le]; exact Int.le_refl _), show qix (0 : Int32) 500 = qix (β := Int32 × St) (nI 0) 500 from rfl, qix_nI (by omega) (by omega), show (0 : Int32).toNatClampNeg = 0 from rfl, hs]
theorem valM_num {μ : St} {a1 : Int32} {n k c e v : Nat} (hc : c < e) (he : e ≤ 6000) (hk : k < 500) (h1 : μ.1 19 c = 0) (h2 : μ.1 20 c = nI v) : fX6_value_L a1 (nI e) (n + 1) (nI k) (nI c) μ = fX6_value_L a1 (nI e) n (nI (k + 1)) (nI (c + 1)) (sI μ 39 k (nI v)) := by
  rw [fX6_value_L, if_neg (nI_ge hc (by omega))]
  simp only [qlet_e, qix_nI (show c < 6000 by omega) (show 6000 ≤ 2 ^ 31 by omega), nI_clamp (show c < 2 ^ 31 by omega), h1, h2, show ¬ (2 : Int32) ≤ 0 by decide, if_false, if_true, qix_nI hk (show 500 ≤ 2 ^ 31 by omega), nI_clamp (show k < 2 ^ 31 by omega), nI_1]
theorem valM_var {μ : St} {a1 : Int32} {n k c e i : Nat} (hc : c < e) (he : e ≤ 6000) (hk : k < 500) (h1 : μ.1 19 c = 1) (h2 : μ.1 20 c = nI i) (hi : i < 8) : fX6_value_L a1 (nI e) (n + 1) (nI k) (nI c) μ = fX6_value_L a1 (nI e) n (nI (k + 1)) (nI (c + 1)) (sI μ 39 k (μ.1 38 i)) := by
  rw [fX6_value_L, if_neg (nI_ge hc (by omega))]
  simp only [qlet_e, qix_nI (show c < 6000 by omega) (show 6000 ≤ 2 ^ 31 by omega), nI_clamp (show c < 2 ^ 31 by omega), h1, h2, show ¬ (2 : Int32) ≤ 1 by decide, show ¬ (1 : Int32) = 0 by decide, if_false, qix_nI hi (show 8 ≤ 2 ^ 31 by omega), nI_clamp (show i < 2 ^ 31 by omega), qix_nI hk (show 500 ≤ 2 ^ 31 by omega), nI_clamp (show k < 2 ^ 31 by omega), nI_1]
theorem valM_bin {μ : St} {a1 : Int32} {n k c e o : Nat} (hc : c < e) (he : e ≤ 6000) (hk : k + 2 ≤ 500) (h1 : μ.1 19 c = nI (o - 14)) (ho : 16 ≤ o ∧ o ≤ 18) : fX6_value_L a1 (nI e) (n + 1) (nI (k + 2)) (nI c) μ = fX6_value_L a1 (nI e) n (nI (k + 1)) (nI (c + 1)) (sI μ 39 k (appS o (μ.1 39 k) (μ.1 39 (k + 1)))) := by
  rw [fX6_value_L, if_neg (nI_ge hc (by omega))]
  rcases (show o = 16 ∨ o = 17 ∨ o = 18 by omega) with rfl | rfl | rfl
  · simp only [qlet_e, qix_nI (show c < 6000 by omega) (show 6000 ≤ 2 ^ 31 by omega), nI_clamp (show c < 2 ^ 31 by omega), h1, show nI (16 - 14) = 2 from rfl, show (2 : Int32) ≤ 2 from by decide, if_true, show nI (k + 2) + -1 = nI (k + 1) from pk_m1 (k + 1), nI_m1, qix_nI (show k < 500 by omega) (show 500 ≤ 2 ^ 31 by omega), qix_nI (show k + 1 < 500 by omega) (show 500 ≤ 2 ^ 31 by omega), nI_clamp (show k < 2 ^ 31 by omega), nI_clamp (show k + 1 < 2 ^ 31 by omega), nI_1]
    rfl
  · simp only [qlet_e, qix_nI (show c < 6000 by omega) (show 6000 ≤ 2 ^ 31 by omega), nI_clamp (show c < 2 ^ 31 by omega), h1, show nI (17 - 14) = 3 from rfl, show (2 : Int32) ≤ 3 from by decide, show ¬ (3 : Int32) = 2 by decide, if_true, if_false, show nI (k + 2) + -1 = nI (k + 1) from pk_m1 (k + 1), nI_m1, qix_nI (show k < 500 by omega) (show 500 ≤ 2 ^ 31 by omega), qix_nI (show k + 1 < 500 by omega) (show 500 ≤ 2 ^ 31 by omega), nI_clamp (show k < 2 ^ 31 by omega), nI_clamp (show k + 1 < 2 ^ 31 by omega), nI_1]
    rfl
  · simp only [qlet_e, qix_nI (show c < 6000 by omega) (show 6000 ≤ 2 ^ 31 by omega), nI_clamp (show c < 2 ^ 31 by omega), h1, show nI (18 - 14) = 4 from rfl, show (2 : Int32) ≤ 4 from by decide, show ¬ (4 : Int32) = 2 by decide, show ¬ (4 : Int32) = 3 by decide, if_true, if_false, show nI (k + 2) + -1 = nI (k + 1) from pk_m1 (k + 1), nI_m1, qix_nI (show k < 500 by omega) (show 500 ≤ 2 ^ 31 by omega), qix_nI (show k + 1 < 500 by omega) (show 500 ≤ 2 ^ 31 by omega), nI_clamp (show k < 2 ^ 31 by omega), nI_clamp (show k + 1 < 2 ^ 31 by omega), nI_1]
    rfl
theorem valM_run {V : Nat → Int32} {a1 : Int32} {e : Nat} (he : e ≤ 6000) : ∀ (A : List Op) (s : List Int32) (c n : Nat) (μ : St), c + A.length = e → (∀ o ∈ A, okOp o) → HasM (μ.1 19) (μ.1 20) c A → HasS (μ.1 39) s → s.length ≤ 16 → (∀ i, i < 8 → μ.1 38 i = V i) → dp 16 A s.length = some 1 → A.length < n → ∃ μ', fX6_value_L a1 (nI e) n (nI s.length) (nI c) μ = some ((ex V A s).headD 0, μ') ∧ (∀ i, i ≠ 39 → μ'.1 i = μ.1 i) ∧ μ'.2 = μ.2
  | [], s, c, n + 1, μ, h, _, _, hS, _, _, hd, _ => by
    rw [dp, Option.some.injEq] at hd
    have h : c = e := h
    subst h
    match s, hd, hS with
    | [x], _, hS => exact ⟨μ, valM_end hS.1, fun _ _ => rfl, rfl⟩
  | Sum.inl v :: rest, s, c, n + 1, μ, h, ho, hC, hS, hs, hV, hd, hn => by
    rw [List.length_cons] at h hn
    rw [dp] at hd
    split at hd
    · rename_i hk
      have e1 := valM_num (a1 := a1) (n := n) (show c < e by omega) he (show s.length < 500 by omega) hC.1.1 hC.1.2
      have j : ∀ i, i ≠ 39 → (sI μ 39 s.length (nI v)).1 i = μ.1 i := fun i hi => sI_n _ _ _ _ hi
      obtain ⟨μ', i1, i2, i3⟩ := valM_run (V := V) (a1 := a1) he rest (nI v :: s) (c + 1) n (sI μ 39 s.length (nI v)) (by omega) (fun o h => ho o (List.mem_cons_of_mem _ h)) (by rw [j _ (by omega), j _ (by omega)]; exact hC.2) (by rw [sI_s]; exact HasS_push hS _) (by rw [List.length_cons]; omega) (fun i hi => by rw [j _ (by omega)]; exact hV i hi) hd (by omega)
      rw [List.length_cons] at i1
      exact ⟨μ', by rw [e1, i1]; rfl, fun i hi => (i2 i hi).trans (j i hi), i3⟩
    · cases hd
  | Sum.inr (Sum.inl v) :: rest, s, c, n + 1, μ, h, ho, hC, hS, hs, hV, hd, hn => by
    rw [List.length_cons] at h hn
    rw [dp] at hd
    split at hd
    · rename_i hk
      have hv : v < 8 := ho _ List.mem_cons_self
      have e1 := valM_var (a1 := a1) (n := n) (show c < e by omega) he (show s.length < 500 by omega) hC.1.1 hC.1.2 hv
      rw [hV v hv] at e1
      have j : ∀ i, i ≠ 39 → (sI μ 39 s.length (V v)).1 i = μ.1 i := fun i hi => sI_n _ _ _ _ hi
      obtain ⟨μ', i1, i2, i3⟩ := valM_run (V := V) (a1 := a1) he rest (V v :: s) (c + 1) n (sI μ 39 s.length (V v)) (by omega) (fun o h => ho o (List.mem_cons_of_mem _ h)) (by rw [j _ (by omega), j _ (by omega)]; exact hC.2) (by rw [sI_s]; exact HasS_push hS _) (by rw [List.length_cons]; omega) (fun i hi => by rw [j _ (by omega)]; exact hV i hi) hd (by omega)
      rw [List.length_cons] at i1
      exact ⟨μ', by rw [e1, i1]; rfl, fun i hi => (i2 i hi).trans (j i hi), i3⟩
    · cases hd
  | Sum.inr (Sum.inr o) :: rest, s, c, n + 1, μ, h, ho, hC, hS, hs, hV, hd, hn => by
    rw [List.length_cons] at h hn
    rw [dp] at hd
    split at hd
    · rename_i hk
      match s, hk, hS, hs, hd with
      | b :: a :: s, _, hS, hs, hd =>
        rw [List.length_cons, List.length_cons] at hs hd
        have hv : 16 ≤ o ∧ o ≤ 18 := ho _ List.mem_cons_self
        have e1 := valM_bin (a1 := a1) (n := n) (k := s.length) (show c < e by omega) he (by omega) hC.1.1 hv
        have ea : μ.1 39 s.length = a := hS.2.1
        have eb : μ.1 39 (s.length + 1) = b := hS.1
        rw [ea, eb] at e1
        have j : ∀ i, i ≠ 39 → (sI μ 39 s.length (appS o a b)).1 i = μ.1 i := fun i hi => sI_n _ _ _ _ hi
        obtain ⟨μ', i1, i2, i3⟩ := valM_run (V := V) (a1 := a1) he rest (appS o a b :: s) (c + 1) n (sI μ 39 s.length (appS o a b)) (by omega) (fun o h => ho o (List.mem_cons_of_mem _ h)) (by rw [j _ (by omega), j _ (by omega)]; exact hC.2) (by rw [sI_s]; exact HasS_push hS.2.2 _) (by rw [List.length_cons]; omega) (fun i hi => by rw [j _ (by omega)]; exact hV i hi) hd (by omega)
        rw [List.length_cons] at i1
        exact ⟨μ', by rw [List.length_cons, List.length_cons, e1, i1]; rfl, fun i hi => (i2 i hi).trans (j i hi), i3⟩
    · cases hd
theorem valM_is {V : Nat → Int32} {μ : St} {a b : Nat} {L : List Op} (ho : okEx L) (hL : a + L.length = b) (hb : b ≤ 6000) (hM : HasM (μ.1 19) (μ.1 20) a L) (hV : ∀ i, i < 8 → μ.1 38 i = V i) : ∃ μ', fX6_value μ (nI a) (nI b) = some (valS V L, μ') ∧ (∀ i, i ≠ 39 → μ'.1 i = μ.1 i) ∧ μ'.2 = μ.2 := by
  unfold fX6_value
  exact valM_run (V := V) (a1 := nI a) hb L [] a 100000 μ hL ho.1 hM trivial (Nat.zero_le _) hV ho.2 (by omega)
