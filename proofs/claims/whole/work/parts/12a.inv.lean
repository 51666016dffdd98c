-- ===== what is asked: ranges =====
def inN (n : Nat) (a : Int32) : Prop := ∃ k, k < n ∧ a = nI k
noncomputable def b01 (P : Prop) : Int32 := by classical exact if P then 1 else 0
theorem b01_t {P : Prop} (h : P) : b01 P = 1 := by unfold b01; rw [if_pos h]
theorem b01_f {P : Prop} (h : ¬ P) : b01 P = 0 := by unfold b01; rw [if_neg h]
theorem inN_neg {n : Nat} {a : Int32} (hn : n ≤ 2 ^ 31) (h : a < 0) : ¬ inN n a := fun ⟨k, hk, e⟩ => by
  rw [e] at h
  exact absurd h (nI_pos (by omega))
theorem inN_big {n : Nat} {a : Int32} (hn : n < 2 ^ 31) (h : nI n ≤ a) : ¬ inN n a := fun ⟨k, hk, e⟩ => by
  rw [e] at h
  exact absurd h (nI_ge hk hn)
theorem chk_lt {n : Nat} (hn : n < 2 ^ 31) (a : Int32) (σ : St) : (if a < 0 then qzz 0 (some ((0 : Int32), σ)) else (if nI n ≤ a then qzz 0 (some ((0 : Int32), σ)) else qzz 1 (some ((1 : Int32), σ)))) = some (b01 (inN n a), σ) := by
  rcases pk_ix a hn with h | h | ⟨j, hj, e⟩
  · rw [if_pos h, b01_f (inN_neg (by omega) h)]
    rfl
  · rw [b01_f (inN_big hn h)]
    by_cases q : a < 0
    · rw [if_pos q]
      rfl
    · rw [if_neg q, if_pos h]
      rfl
  · rw [b01_t ⟨j, hj, e⟩, e, if_neg (nI_pos (by omega)), if_neg (nI_ge hj hn)]
    rfl
theorem chk_le {n : Nat} (hn : n + 1 < 2 ^ 31) (a : Int32) (σ : St) : (if a < 0 then qzz 0 (some ((0 : Int32), σ)) else (if nI n < a then qzz 0 (some ((0 : Int32), σ)) else qzz 1 (some ((1 : Int32), σ)))) = some (b01 (inN (n + 1) a), σ) := by
  rcases pk_ix a hn with h | h | ⟨j, hj, e⟩
  · rw [if_pos h, b01_f (inN_neg (by omega) h)]
    rfl
  · rw [b01_f (inN_big hn h)]
    split
    · rfl
    · rw [if_pos (by
        have h1 := nI_lt (a := n) (b := n + 1) (by omega) hn
        rw [fa_lt] at h1 ⊢
        rw [fa_le] at h
        omega)]
      rfl
  · rw [b01_t ⟨j, hj, e⟩, e, if_neg (nI_pos (by omega)), if_neg (nI_nlt (by omega) (by omega))]
    rfl
theorem isLandC {σ : St} {la : Nat} (h : σ.1 2 7 = nI la) (hla : la ≤ 6) (a : Int32) : fX4_isLand σ a = some (b01 (inN la a), σ) := by
  unfold fX4_isLand
  simp only [qlet, h]
  exact chk_lt (by omega) a σ
theorem isLandM {σ : St} {la : Nat} (h : σ.1 0 37 = nI la) (hla : la ≤ 6) (a : Int32) : fX6_isLand σ a = some (b01 (inN la a), σ) := by
  unfold fX6_isLand
  simp only [qlet, h]
  exact chk_lt (by omega) a σ
theorem isWitC {σ : St} {wn : Nat} (h : σ.1 21 6 = nI wn) (hw : wn ≤ 12) (a : Int32) : fX0_isWitness σ a = some (b01 (inN wn a), σ) := by
  unfold fX0_isWitness
  simp only [qlet, h]
  exact chk_lt (by omega) a σ
theorem isWitM {σ : St} {wn : Nat} (h : σ.1 0 43 = nI wn) (hw : wn ≤ 12) (a : Int32) : fX6_isWitness σ a = some (b01 (inN wn a), σ) := by
  unfold fX6_isWitness
  simp only [qlet, h]
  exact chk_lt (by omega) a σ
theorem knownC {σ : St} {fn : Nat} (h : σ.1 21 7 = nI fn) (hf : fn ≤ 300) (a : Int32) : fX0_canBeKnownBy σ a = some (b01 (inN (fn + 1) a), σ) := by
  unfold fX0_canBeKnownBy
  simp only [qlet, h]
  exact chk_le (by omega) a σ
theorem knownM {σ : St} {fn : Nat} (h : σ.1 0 45 = nI fn) (hf : fn ≤ 300) (a : Int32) : fX6_isKnown σ a = some (b01 (inN (fn + 1) a), σ) := by
  unfold fX6_isKnown
  simp only [qlet, h]
  exact chk_le (by omega) a σ
theorem evC (σ : St) (a : Int32) : fX5_isEvening σ a = some (b01 (inN 400 a), σ) := by
  unfold fX5_isEvening
  simp only [qlet]
  exact chk_lt (n := 400) (by omega) a σ
theorem evM (σ : St) (a : Int32) : fX6_isEvening σ a = some (b01 (inN 400 a), σ) := by
  unfold fX6_isEvening
  simp only [qlet]
  exact chk_lt (n := 400) (by omega) a σ
theorem monM (σ : St) (a : Int32) : fX6_isMonth σ a = some (b01 (inN 15 a), σ) := by
  unfold fX6_isMonth
  simp only [qlet]
  exact chk_le (n := 14) (by omega) a σ
-- ===== what holds between calls =====
def InvT (σ μ : St) : Prop := ∃ n, n ≤ 2000 ∧ σ.1 0 1 = nI n ∧ μ.1 0 2 = nI n ∧ ∀ k, k < n → σ.1 1 k = μ.1 1 k ∧ (σ.1 1 k).toInt8.toInt32 = σ.1 1 k
def InvJ (σ μ : St) (mo fn : Nat) : Prop := σ.1 21 8 = -1 ∨ ∃ k, k ≤ fn ∧ Judged σ μ mo k
def InvS (σ μ : St) (la fn : Nat) : Prop := σ.1 36 9 = μ.1 0 49 ∧ (σ.1 36 9 = -1 ∨ ((∃ k, k ≤ fn ∧ σ.1 36 9 = nI k) ∧ ∀ l, l < la → LandR σ μ l 400))
def keyT : List Nat := [1166657, 10631, 40187, 249, 423, 1111, 80155, 377771, 12532058, 43544, 6559778, 1842025, 226024039, 7214732]
def Keys (μ : St) : Prop := ∀ k, k < 14 → μ.2.1 7 k = lN (keyT.getD k 0)
def InvX (σ μ : St) (la : Nat) : Prop := (∀ l, l < 6 → TextR σ μ l) ∧ (∀ l, l < 6 → ∃ r v, r ≤ 12 ∧ v ≤ 1 ∧ σ.1 (61 + 5 * σ.2.2 l) 5 = nI r ∧ μ.1 8 l = nI v ∧ μ.1 9 (2 * l + v) = nI r ∧ (la ≤ l → r = 0)) ∧ (∀ i, i < 7 → σ.2.2 i < 7) ∧ (∀ i j, i < 7 → j < 7 → σ.2.2 i = σ.2.2 j → i = j) ∧ Keys μ
def Inv (σ μ : St) (mo la wn fn : Nat) : Prop := InvW σ μ mo la ∧ InvF σ μ la wn fn ∧ InvT σ μ ∧ σ.1 0 2 = μ.1 0 17 ∧ InvJ σ μ mo fn ∧ InvS σ μ la fn ∧ InvX σ μ la
theorem InvX.mono {σ σ' μ μ' : St} {la : Nat} (X : InvX σ μ la) (h : TX σ σ') (g : MX μ μ') (k : μ'.2 = μ.2) : InvX σ' μ' la := by
  obtain ⟨x1, x2, x3, x4, x5⟩ := X
  unfold InvX
  rw [h.2]
  refine ⟨fun l hl => (x1 l hl).mono h g, fun l hl => ?_, x3, x4, by unfold Keys; rw [k]; exact x5⟩
  obtain ⟨r, v, h1, h2, h3, h4, h5, h6⟩ := x2 l hl
  have := x3 l (by omega)
  exact ⟨r, v, h1, h2, by rw [h.1 _ (by omega) (by omega) (by omega)]; exact h3, by rw [g 8 (by omega) (by omega)]; exact h4, by rw [g 9 (by omega) (by omega)]; exact h5, h6⟩
theorem InvJ.use {σ μ : St} {mo fn : Nat} (hf : fn ≤ 300) (J : InvJ σ μ mo fn) : ∀ k, σ.1 21 8 = nI k → k ≤ fn → Judged σ μ mo k := fun k hk hk2 => by
  rcases J with h | ⟨j, hj, h⟩
  · rw [hk] at h
    exact absurd h (nI_neg1 (by omega))
  · have := h.1
    rw [hk] at this
    rw [(nI_eq (by omega) (by omega)).mp this]
    exact h
/-- standing by n keeps all that holds between calls -/
theorem Inv.stand {σ μ : St} {mo la wn fn n : Nat} (I : Inv σ μ mo la wn fn) (hn : n ≤ fn) : ∃ σ' μ', fX1_standBy σ (nI n) = some (0, σ') ∧ fX6_goes μ (nI n) = some (0, μ') ∧ Inv σ' μ' mo la wn fn ∧ Judged σ' μ' mo n ∧ (∀ l, l < la → LandR σ' μ' l 400) ∧ (∀ i, i = 60 → σ'.1 i = σ.1 i) ∧ (∀ i, 40 < i → μ'.1 i = μ.1 i) := by
  obtain ⟨W, F, T, P, J, S, X⟩ := I
  have hla := W.2.1
  have hfn := F.2.1
  obtain ⟨σ', μ', a1, a2, a3, a4, a5, a6, a7, a8, a9, a10, a11, a12⟩ := stand_R W F (fun l hl => (X.1 l (by omega)).rule (by omega)) hn (J.use hfn) S.1 (fun k hk hk2 l hl => by
    rcases S.2 with h | h
    · rw [hk] at h
      exact absurd h (nI_neg1 (by omega))
    · exact h.2 l hl)
  refine ⟨σ', μ', a1, a2, ⟨(W.congr (fun i h1 h2 => a7 i (by omega))).congrM (fun i h1 h2 => a10 i (by omega) (by omega)) (a11 35 (by omega)) (a11 37 (by omega)), (F.congr (fun i h1 h2 => a7 i (by omega)) (a8 6 (by omega)) (a8 7 (by omega))).congrM (fun i h1 h2 => a10 i (by omega) (by omega)) (a11 43 (by omega)) (a11 45 (by omega)), ?_, ?_, Or.inr ⟨n, hn, a3⟩, ⟨a4.trans a5.symm, Or.inr ⟨⟨n, hn, a4⟩, a6⟩⟩, X.mono ⟨fun i h1 h2 h3 => a7 i (by omega), by rw [a9]⟩ (fun i h1 h2 => a10 i (by omega) (by omega)) a12⟩, a3, a6, fun i hi => a7 i (by omega), fun i hi => a10 i (by omega) (by omega)⟩
  · unfold InvT
    rw [a7 0 (by omega), a7 1 (by omega), a11 2 (by omega), a10 1 (by omega) (by omega)]
    exact T
  · rw [a7 0 (by omega), a11 17 (by omega)]
    exact P
theorem Inv.judge {σ μ : St} {mo la wn fn n : Nat} (I : Inv σ μ mo la wn fn) (hn : n ≤ fn) : ∃ σ', fX0_judge σ (nI n) = some (0, σ') ∧ Inv σ' μ mo la wn fn ∧ Judged σ' μ mo n := by
  obtain ⟨W, F, T, P, J, S, X⟩ := I
  have hla := W.2.1
  have hfn := F.2.1
  obtain ⟨σ', a1, a2, a3, a4, a5⟩ := fX0_judge_is W F hn (J.use hfn)
  refine ⟨σ', a1, ⟨W.congr (fun i h1 h2 => a3 i (by omega) (by omega)), F.congr (fun i h1 h2 => a3 i (by omega) (by omega)) (a4 6 (by omega)) (a4 7 (by omega)), ?_, ?_, Or.inr ⟨n, hn, a2⟩, ?_, X.mono ⟨fun i h1 h2 h3 => a3 i (by omega) (by omega), by rw [a5]⟩ (MX.rf μ) rfl⟩, a2⟩
  · unfold InvT
    rw [a3 0 (by omega) (by omega), a3 1 (by omega) (by omega)]
    exact T
  · rw [a3 0 (by omega) (by omega)]
    exact P
  · unfold InvS
    rw [a3 36 (by omega) (by omega)]
    exact ⟨S.1, S.2.imp id (fun h => ⟨h.1, fun l hl => (h.2 l hl).congr (fun i hi => a3 i (by omega) (by omega)) (fun _ _ => rfl)⟩)⟩
