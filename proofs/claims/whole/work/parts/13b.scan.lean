-- ===== the class scans a token =====
def ScR (σ : St) (n : Nat) : Prop := σ.1 34 3 = nI n ∧ n ≤ 2000
theorem ifL {α : Type} {x : Int32} {a b : α} : (if x < 97 then a else if 122 < x then a else b) = if isL x = true then b else a := by
  unfold isL
  by_cases h1 : x < 97
  · simp [h1]
  · by_cases h2 : 122 < x <;> simp [h1, h2]
theorem ifD {α : Type} {x : Int32} {a b : α} : (if x < 48 then a else if 57 < x then a else b) = if isD x = true then b else a := by
  unfold isD
  by_cases h1 : x < 48
  · simp [h1]
  · by_cases h2 : 57 < x <;> simp [h1, h2]
theorem ifB {α : Type} {x : Int32} {a b : α} : (if x = 9 then a else if x = 10 then a else if x = 13 then a else if x = 32 then a else b) = if isB x = true then a else b := by
  unfold isB
  by_cases h1 : x = 9
  · simp [h1]
  · by_cases h2 : x = 10
    · simp [h2]
    · by_cases h3 : x = 13
      · simp [h3]
      · by_cases h4 : x = 32 <;> simp [h1, h2, h3, h4]
theorem isLetC (σ : St) (x : Int32) : fX2_isLetter σ x = some (b2 (isL x), σ) := by
  unfold fX2_isLetter
  simp only [qlet]
  rw [ifL]
  cases isL x <;> rfl
theorem isDigC (σ : St) (x : Int32) : fX2_isDigit σ x = some (b2 (isD x), σ) := by
  unfold fX2_isDigit
  simp only [qlet]
  rw [ifD]
  cases isD x <;> rfl
theorem isBlkC (σ : St) (x : Int32) : fX2_isBlank σ x = some (b2 (isB x), σ) := by
  unfold fX2_isBlank
  simp only [qlet]
  rw [ifB]
  cases isB x <;> rfl
theorem b2t : ¬ b2 true = 0 := by decide
theorem b2f : b2 false = 0 := rfl
/-- one place further, or not -/
theorem scan_at {α : Type} {σ : St} {n x : Nat} {p : Int32 → Bool} {fp : St → Int32 → Option (Int32 × St)} (hp : ∀ σ x, fp σ x = some (b2 (p x), σ)) (h : ScR σ n) (h4 : σ.1 34 4 = nI x) (hx : x ≤ n) (A B : St → Option α) : (if σ.1 34 3 ≤ σ.1 34 4 then A σ else qix (σ.1 34 4) 2000 (qcall (fp σ (σ.1 1 (σ.1 34 4).toNatClampNeg)) (fun r σ1 => if r = 0 then A σ1 else B σ1))) = if atQ p (σ.1 1) n x = true then B σ else A σ := by
  have hn := h.2
  rw [h.1, h4]
  by_cases q : x < n
  · rw [if_neg (nI_ge q (by omega)), qix_nI (by omega) (by omega), nI_clamp (by omega), hp, qcall_s]
    unfold atQ
    rw [decide_eq_true q, Bool.true_and]
    cases p (σ.1 1 x)
    · rw [if_pos b2f, if_neg (by decide)]
    · rw [if_neg b2t, if_pos rfl]
  · rw [if_pos (nI_le (by omega) (by omega)), atQ_out (by omega), if_neg (by decide)]
/-- what a scan leaves as it was -/
def ScK (σ σ' : St) : Prop := (∀ i, i ≠ 34 → σ'.1 i = σ.1 i) ∧ (∀ i, i ≠ 4 → i ≠ 5 → i ≠ 6 → i ≠ 9 → σ'.1 34 i = σ.1 34 i) ∧ σ'.2 = σ.2
theorem ScK.rf (σ : St) : ScK σ σ := ⟨fun _ _ => rfl, fun _ _ _ _ _ => rfl, rfl⟩
theorem ScK.trans {a b c : St} (h : ScK a b) (g : ScK b c) : ScK a c := ⟨fun i hi => (g.1 i hi).trans (h.1 i hi), fun i h1 h2 h3 h4 => (g.2.1 i h1 h2 h3 h4).trans (h.2.1 i h1 h2 h3 h4), g.2.2.trans h.2.2⟩
theorem ScK.set (σ : St) {k : Nat} (v : Int32) (hk : k = 4 ∨ k = 5 ∨ k = 6 ∨ k = 9) : ScK σ (sI σ 34 k v) := ⟨fun i hi => sI_n _ _ _ _ hi, fun i h1 h2 h3 h4 => by rw [sI_s, upd_n _ _ (by omega)], rfl⟩
theorem ScK.r {σ σ' : St} {n : Nat} (h : ScK σ σ') (g : ScR σ n) : ScR σ' n := ⟨by rw [h.2.1 3 (by omega) (by omega) (by omega) (by omega)]; exact g.1, g.2⟩
-- words
theorem scW_0 {n : Nat} : ∀ (j x N : Nat) (σ : St), ScR σ n → σ.1 34 4 = nI x → x ≤ n → n - x = j → j < N → ∃ N' σ', fX2_scanWord_L N 0 0 0 σ = fX2_scanWord_L N' 1 0 0 σ' ∧ N ≤ N' + j + 1 ∧ ScK σ σ' ∧ σ'.1 34 4 = nI (upQ isL (σ.1 1) n x) ∧ σ'.1 34 5 = 0 ∧ σ'.1 34 9 = σ.1 34 9
  | j, x, N + 1, σ, h, h4, hx, hj, hN => by
    have e : fX2_scanWord_L (N + 1) 0 0 0 σ = if atQ isL (σ.1 1) n x = true then fX2_scanWord_L N 0 0 0 (sI σ 34 4 ((σ.1 34 4) + (1 : Int32))) else fX2_scanWord_L N 1 0 0 (sI σ 34 5 0) := by
      rw [fX2_scanWord_L, if_pos rfl, qlet_e]
      exact scan_at isLetC h h4 hx (fun s => qlet (sI s 34 5 (0 : Int32)) (fun σ41 => fX2_scanWord_L N 1 (0 : Int32) (0 : Int32) σ41)) (fun s => qlet (sI s 34 4 ((s.1 34 4) + (1 : Int32))) (fun σ33 => fX2_scanWord_L N 0 0 0 σ33))
    rw [e]
    cases hq : atQ isL (σ.1 1) n x
    · rw [if_neg (by decide), upQ_no hq]
      exact ⟨N, _, rfl, by omega, ScK.set σ 0 (by omega), by rw [sI_s, upd_n _ _ (by omega)]; exact h4, by rw [sI_s, upd_s], by rw [sI_s, upd_n _ _ (by omega)]⟩
    · rw [if_pos rfl, h4, nI_1, upQ_go hq]
      have hlt := (atQ_lt hq).1
      have k := ScK.set σ (k := 4) (nI (x + 1)) (by omega)
      obtain ⟨N', σ', a1, a2, a3, a4, a5, a6⟩ := scW_0 (j - 1) (x + 1) N (sI σ 34 4 (nI (x + 1))) (k.r h) (by rw [sI_s, upd_s]) (by omega) (by omega) (by omega)
      rw [k.1 1 (by omega)] at a4
      exact ⟨N', σ', a1, by omega, k.trans a3, a4, a5, by rw [a6, sI_s, upd_n _ _ (by omega)]⟩
theorem isWd_run {σ : St} {i s l e : Nat} (h9 : σ.1 34 9 = nI i) (hs : s + l ≤ 71) (he : i + l ≤ 2000) : ∀ (j x N : Nat), x + j = l → eqW (σ.1 1) i s x = true → j < N → fX2_isWord_L (nI s) (nI (s + l)) N (nI (s + x)) σ = some (b2 (eqW (σ.1 1) i s l), σ)
  | 0, x, N + 1, hx, h, _ => by
    have : x = l := hx
    subst this
    rw [fX2_isWord_L, if_pos (nI_le (Nat.le_refl _) (by omega)), h]
    rfl
  | j + 1, x, N + 1, hx, h, hN => by
    rw [fX2_isWord_L, if_neg (nI_ge (by omega) (by omega)), qix_nI (by omega) (by omega), nI_clamp (by omega), h9, nI_add, pk_sub (by omega), show i + (s + x) - s = i + x by omega, qix_nI (by omega) (by omega), nI_clamp (by omega)]
    by_cases q : wordsAt (s + x) = σ.1 1 (i + x)
    · rw [if_pos q, qlet_e, nI_1]
      exact isWd_run (e := e) h9 hs he j (x + 1) N (by omega) (by rw [eqW, h, decide_eq_true q]; rfl) (by omega)
    · rw [if_neg q]
      have : eqW (σ.1 1) i s l = false := by
        cases hq : eqW (σ.1 1) i s l
        · rfl
        · exact absurd (eqW_iff.mp hq x (by omega)) q
      rw [this]
      rfl
theorem isWd_is {σ : St} {i e k : Nat} (h9 : σ.1 34 9 = nI i) (h4 : σ.1 34 4 = nI e) (hi : i ≤ e) (he : e ≤ 2000) (hk : k < 14) : fX2_isWord σ (nI (wdS k)) (nI (wdS k + wdL k)) = some (b2 (isW (σ.1 1) i e k), σ) := by
  obtain ⟨w1, w2, w3, w4, w5, w6⟩ := wd_all k hk
  unfold fX2_isWord isW
  rw [h9, h4, pk_sub (by omega), pk_sub hi, show wdS k + wdL k - wdS k = wdL k by omega]
  by_cases q : e - i = wdL k
  · rw [if_pos (by rw [q]), decide_eq_true q, Bool.true_and]
    exact isWd_run (e := e) (x := 0) h9 (by omega) (by omega) (wdL k) 100000 (by omega) rfl (by omega)
  · rw [if_neg (fun h => q ((nI_eq (by omega) (by omega)).mp h).symm), decide_eq_false q, Bool.false_and]
    rfl
theorem scW_char {σ : St} {v1 : Int32} {s : Nat} : ∀ (j x N : Nat), (∀ y, x ≤ y → y < x + j → ¬ wordsAt (s + y) = 32) → s + x + j < 71 → fX2_scanWord_L (N + j) 1 v1 (nI (s + x)) σ = fX2_scanWord_L N 1 v1 (nI (s + (x + j))) σ
  | 0, x, N, _, _ => rfl
  | j + 1, x, N, h, hs => by
    rw [show N + (j + 1) = N + j + 1 by omega, fX2_scanWord_L, if_neg (by decide), if_neg (show ¬ (71 : Int32) ≤ nI (s + x) from nI_ge (b := 71) (by omega) (by omega)), qix_nI (by omega) (by omega), nI_clamp (by omega), qlet_e, if_neg (h x (by omega) (by omega))]
    simp only [qlet_e, nI_1]
    have := scW_char (σ := σ) (v1 := v1) (s := s) j (x + 1) N (fun y h1 h2 => h y (by omega) (by omega)) (by omega)
    rw [show s + x + 1 = s + (x + 1) by omega, this, show x + 1 + j = x + (j + 1) by omega]
theorem scW_1 {n : Nat} : ∀ (j k N : Nat) (σ : St) {i e : Nat}, k + j = 14 → σ.1 34 9 = nI i → σ.1 34 4 = nI e → i ≤ e → e ≤ 2000 → σ.1 34 5 = nI k → 7 * j + 1 < N → ∃ σ', fX2_scanWord_L N 1 (nI (wdS k)) (nI (wdS k)) σ = some (0, σ') ∧ ScK σ σ' ∧ σ'.1 34 4 = σ.1 34 4 ∧ σ'.1 34 9 = σ.1 34 9 ∧ σ'.1 34 5 = nI (fstK (isW (σ.1 1) i e) j k)
  | 0, k, N + 1, σ, i, e, hk, h9, h4, hi, he, h5, hN => by
    have : k = 14 := hk
    subst this
    rw [fX2_scanWord_L, if_neg (by decide), if_pos (by decide), qlet_e]
    exact ⟨_, rfl, ScK.set σ 26 (by omega), by rw [sI_s, upd_n _ _ (by omega)], by rw [sI_s, upd_n _ _ (by omega)], by rw [sI_s, upd_s]; rfl⟩
  | j + 1, k, N, σ, i, e, hk, h9, h4, hi, he, h5, hN => by
    obtain ⟨w1, w2, w3, w4, w5, w6⟩ := wd_all k (by omega)
    obtain ⟨M, rfl⟩ : ∃ M, N = M + 1 + wdL k := ⟨N - wdL k - 1, by omega⟩
    have c := scW_char (σ := σ) (v1 := nI (wdS k)) (s := wdS k) (wdL k) 0 (M + 1) (fun y h1 h2 => w6 y (by omega) (by omega)) (by omega)
    simp only [Nat.add_zero, Nat.zero_add] at c
    rw [c, fX2_scanWord_L, if_neg (by decide), if_neg (show ¬ (71 : Int32) ≤ nI (wdS k + wdL k) from nI_ge (b := 71) (by omega) (by omega)), qix_nI (by omega) (by omega), nI_clamp (by omega), qlet_e, if_pos w3, isWd_is h9 h4 hi he (by omega), qcall_s, fstK]
    cases q : isW (σ.1 1) i e k
    · rw [if_pos b2f, if_neg (by decide)]
      simp only [qlet_e, h5, nI_1]
      rw [← w1]
      have kk := ScK.set σ (k := 5) (nI (k + 1)) (by omega)
      obtain ⟨σ', a1, a2, a3, a4, a5⟩ := scW_1 (n := n) j (k + 1) M (sI σ 34 5 (nI (k + 1))) (i := i) (e := e) (by omega) (by rw [sI_s, upd_n _ _ (by omega)]; exact h9) (by rw [sI_s, upd_n _ _ (by omega)]; exact h4) hi he (by rw [sI_s, upd_s]) (by omega)
      rw [kk.1 1 (by omega)] at a5
      exact ⟨σ', a1, kk.trans a2, by rw [a3, sI_s, upd_n _ _ (by omega)], by rw [a4, sI_s, upd_n _ _ (by omega)], a5⟩
    · rw [if_neg b2t, if_pos rfl]
      exact ⟨σ, rfl, ScK.rf σ, rfl, rfl, h5⟩
theorem scW_is {σ : St} {n i : Nat} (h : ScR σ n) (h4 : σ.1 34 4 = nI i) (h9 : σ.1 34 9 = nI i) (hi : i ≤ n) : ∃ σ', fX2_scanWord σ = some (0, σ') ∧ ScK σ σ' ∧ σ'.1 34 4 = nI (upQ isL (σ.1 1) n i) ∧ σ'.1 34 9 = nI i ∧ σ'.1 34 5 = nI (fstK (isW (σ.1 1) i (upQ isL (σ.1 1) n i)) 14 0) := by
  have hn := h.2
  unfold fX2_scanWord
  have u := upQ_is (p := isL) (f := σ.1 1) hi
  obtain ⟨N', σ1, a1, a2, a3, a4, a5, a6⟩ := scW_0 (n - i) i 100000 σ h h4 hi rfl (by omega)
  obtain ⟨σ2, b1, b2', b3, b4, b5⟩ := scW_1 (n := n) 14 0 N' σ1 (i := i) (e := upQ isL (σ.1 1) n i) rfl (a6.trans h9) a4 u.1 (by omega) a5 (by omega)
  rw [a3.1 1 (by omega)] at b5
  exact ⟨σ2, a1.trans b1, a3.trans b2', b3.trans a4, b4.trans (a6.trans h9), b5⟩
-- ints
theorem scI_run {n i : Nat} : ∀ (j x N : Nat) (σ : St), ScR σ n → σ.1 34 9 = nI i → σ.1 34 4 = nI (i + x) → i + x ≤ n → n - (i + x) = j → σ.1 34 6 = digS (σ.1 1) i x → j < N → ∃ σ', fX2_scanInt_L N σ = some (0, σ') ∧ ScK σ σ' ∧ σ'.1 34 9 = nI i ∧ σ'.1 34 4 = nI (upQ isD (σ.1 1) n (i + x)) ∧ σ'.1 34 5 = nI (if upQ isD (σ.1 1) n (i + x) - i ≤ 4 then 14 else 26) ∧ σ'.1 34 6 = digS (σ.1 1) i (upQ isD (σ.1 1) n (i + x) - i)
  | j, x, N + 1, σ, h, h9, h4, hx, hj, h6, hN => by
    have hn := h.2
    have e : fX2_scanInt_L (N + 1) σ = if atQ isD (σ.1 1) n (i + x) = true then (qix (σ.1 34 4) 2000 (qlet (sI σ 34 6 ((((σ.1 34 6) * (10 : Int32)) + (σ.1 1 (σ.1 34 4).toNatClampNeg)) - (48 : Int32))) (fun σ52 => qlet (sI σ52 34 4 ((σ52.1 34 4) + (1 : Int32))) (fun σ62 => fX2_scanInt_L N σ62)))) else (if ((σ.1 34 4) - (σ.1 34 9)) ≤ (4 : Int32) then some ((0 : Int32), sI σ 34 5 14) else some ((0 : Int32), sI σ 34 5 26)) := by
      rw [fX2_scanInt_L, qlet_e]
      exact scan_at isDigC h h4 hx (fun y68 => (qlet (fun (y89 : Int32) => (qlet (sI y68 34 5 y89) (fun σ89 => some ((0 : Int32), σ89)))) (fun j89 => (if ((y68.1 34 4) - (y68.1 34 9)) ≤ (4 : Int32) then (j89 (14 : Int32)) else (j89 (26 : Int32)))))) (fun σ25 => (qix (σ25.1 34 4) 2000 (qlet (sI σ25 34 6 ((((σ25.1 34 6) * (10 : Int32)) + (σ25.1 1 (σ25.1 34 4).toNatClampNeg)) - (48 : Int32))) (fun σ52 => qlet (sI σ52 34 4 ((σ52.1 34 4) + (1 : Int32))) (fun σ62 => fX2_scanInt_L N σ62)))))
    rw [e]
    cases hq : atQ isD (σ.1 1) n (i + x)
    · rw [if_neg (by decide), h4, h9, pk_sub (by omega), show i + x - i = x by omega, upQ_no hq, show i + x - i = x by omega]
      by_cases q : x ≤ 4
      · rw [if_pos (show nI x ≤ 4 from nI_le (b := 4) q (by omega)), if_pos q]
        exact ⟨_, rfl, ScK.set σ 14 (by omega), by rw [sI_s, upd_n _ _ (by omega)]; exact h9, by rw [sI_s, upd_n _ _ (by omega)]; exact h4, by rw [sI_s, upd_s]; rfl, by rw [sI_s, upd_n _ _ (by omega)]; exact h6⟩
      · rw [if_neg (show ¬ nI x ≤ 4 from nI_ge (a := 4) (by omega) (by omega)), if_neg q]
        exact ⟨_, rfl, ScK.set σ 26 (by omega), by rw [sI_s, upd_n _ _ (by omega)]; exact h9, by rw [sI_s, upd_n _ _ (by omega)]; exact h4, by rw [sI_s, upd_s]; rfl, by rw [sI_s, upd_n _ _ (by omega)]; exact h6⟩
    · have hlt := (atQ_lt hq).1
      rw [if_pos rfl, h4, qix_nI (by omega) (by omega), nI_clamp (by omega), h6, qlet_e, qlet_e, sI_s, upd_n _ _ (show 4 ≠ 6 by omega), h4, nI_1, upQ_go hq]
      have k1 := ScK.set σ (k := 6) (digS (σ.1 1) i x * 10 + σ.1 1 (i + x) - 48) (by omega)
      have k2 := ScK.set (sI σ 34 6 (digS (σ.1 1) i x * 10 + σ.1 1 (i + x) - 48)) (k := 4) (nI (i + x + 1)) (by omega)
      have k := k1.trans k2
      obtain ⟨σ', a1, a2, a3, a4, a5, a6⟩ := scI_run (i := i) (j - 1) (x + 1) N _ (k.r h) (by rw [sI_s, upd_n _ _ (by omega), sI_s, upd_n _ _ (by omega)]; exact h9) (by rw [sI_s, upd_s]; rfl) (by omega) (by omega) (by rw [sI_s, upd_n _ _ (by omega), sI_s, upd_s, k.1 1 (by omega)]; rfl) (by omega)
      rw [k.1 1 (by omega)] at a4 a5 a6
      exact ⟨σ', a1, k.trans a2, a3, a4, a5, a6⟩
theorem scI_is {σ : St} {n i : Nat} (h : ScR σ n) (h4 : σ.1 34 4 = nI i) (h9 : σ.1 34 9 = nI i) (hi : i ≤ n) : ∃ σ', fX2_scanInt σ = some (0, σ') ∧ ScK σ σ' ∧ σ'.1 34 9 = nI i ∧ σ'.1 34 4 = nI (upQ isD (σ.1 1) n i) ∧ σ'.1 34 5 = nI (if upQ isD (σ.1 1) n i - i ≤ 4 then 14 else 26) ∧ σ'.1 34 6 = digS (σ.1 1) i (upQ isD (σ.1 1) n i - i) := by
  have hn := h.2
  unfold fX2_scanInt
  rw [qlet_e]
  have k := ScK.set σ (k := 6) 0 (by omega)
  obtain ⟨σ', a1, a2, a3, a4, a5, a6⟩ := scI_run (n := n) (i := i) (n - i) 0 100000 (sI σ 34 6 0) (k.r h) (by rw [sI_s, upd_n _ _ (by omega)]; exact h9) (by rw [sI_s, upd_n _ _ (by omega)]; exact h4) hi rfl (by rw [sI_s, upd_s]; rfl) (by omega)
  rw [k.1 1 (by omega), Nat.add_zero] at a4 a5 a6
  exact ⟨σ', a1, k.trans a2, a3, a4, a5, a6⟩
-- signs
theorem pairC (σ : St) (x : Int32) : fX2_pairKind σ x = some (nI (pairK x), σ) := by
  unfold fX2_pairKind pairK
  repeat' split
  all_goals rfl
theorem signC (σ : St) (x : Int32) : fX2_signKind σ x = some (nI (signK x), σ) := by
  unfold fX2_signKind signK
  repeat' split
  all_goals rfl
theorem pairK_le (x : Int32) : pairK x ≤ 26 := by
  unfold pairK
  repeat' split
  all_goals omega
theorem scS_is {σ : St} {n i : Nat} (h : ScR σ n) (h4 : σ.1 34 4 = nI i) (hi : i < n) : ∃ σ', fX2_scanSign σ = some (0, σ') ∧ ScK σ σ' ∧ σ'.1 34 9 = σ.1 34 9 ∧ σ'.1 34 4 = nI (if twoQ (σ.1 1) n i = true then i + 2 else i + 1) ∧ σ'.1 34 5 = nI (if twoQ (σ.1 1) n i = true then pairK (σ.1 1 i) else signK (σ.1 1 i)) := by
  have hn := h.2
  have hp := pairK_le (σ.1 1 i)
  have k5 := ScK.set σ (k := 5) 26 (by omega)
  have one : ∃ σ', (qix (upd (σ.1 34) 5 26 4) 2000 (qcall (fX2_signKind (sI σ 34 5 26) ((sI σ 34 5 26).1 1 (upd (σ.1 34) 5 26 4).toNatClampNeg)) (fun r90 σ90 => some ((0 : Int32), sI (sI σ90 34 5 r90) 34 4 (upd (σ90.1 34) 5 r90 4 + 1))))) = some (0, σ') ∧ ScK σ σ' ∧ σ'.1 34 9 = σ.1 34 9 ∧ σ'.1 34 4 = nI (i + 1) ∧ σ'.1 34 5 = nI (signK (σ.1 1 i)) := by
    rw [upd_n _ _ (show 4 ≠ 5 by omega), h4, qix_nI (by omega) (by omega), nI_clamp (by omega), k5.1 1 (by omega), signC, qcall_s, upd_n _ _ (show 4 ≠ 5 by omega), sI_s, upd_n _ _ (show 4 ≠ 5 by omega), h4, nI_1]
    have k6 := (k5.trans (ScK.set _ (k := 5) (nI (signK (σ.1 1 i))) (by omega))).trans (ScK.set _ (k := 4) (nI (i + 1)) (by omega))
    exact ⟨_, rfl, k6, by rw [sI_s, upd_n _ _ (by omega), sI_s, upd_n _ _ (by omega), sI_s, upd_n _ _ (by omega)], by rw [sI_s, upd_s], by rw [sI_s, upd_n _ _ (by omega), sI_s, upd_s]⟩
  unfold fX2_scanSign
  simp only [qlet_e, h.1, h4, nI_1]
  by_cases q1 : i + 1 < n
  · rw [if_neg (nI_ge q1 (by omega)), qix_nI (by omega) (by omega), nI_clamp (show i + 1 < 2 ^ 31 by omega)]
    by_cases q2 : σ.1 1 (i + 1) = 61
    · rw [if_pos q2]
      simp only [if10, qix_nI (show i < 2000 by omega) (show 2000 ≤ 2 ^ 31 by omega), nI_clamp (show i < 2 ^ 31 by omega), pairC, qcall_s, sI_s, upd_s]
      by_cases q3 : pairK (σ.1 1 i) = 26
      · have tq : twoQ (σ.1 1) n i = false := by unfold twoQ; rw [decide_eq_true q3]; simp
        rw [tq, q3, if_pos (show nI 26 = 26 from rfl)]
        exact one
      · have tq : twoQ (σ.1 1) n i = true := by unfold twoQ; rw [decide_eq_false q3, decide_eq_true q1, decide_eq_true q2]; rfl
        rw [tq, if_neg (show ¬ nI (pairK (σ.1 1 i)) = 26 from fun q => q3 ((nI_eq (b := 26) (by omega) (by omega)).mp q)), if_pos rfl, if_pos rfl, upd_n _ _ (show 4 ≠ 5 by omega), h4, show (2 : Int32) = nI 2 from rfl, nI_add]
        exact ⟨_, rfl, (ScK.set σ (k := 5) (nI (pairK (σ.1 1 i))) (by omega)).trans (ScK.set _ (k := 4) (nI (i + 2)) (by omega)), by rw [sI_s, upd_n _ _ (by omega), sI_s, upd_n _ _ (by omega)], by rw [sI_s, upd_s], by rw [sI_s, upd_n _ _ (by omega), sI_s, upd_s]⟩
    · have tq : twoQ (σ.1 1) n i = false := by unfold twoQ; rw [decide_eq_false q2]; simp
      rw [if_neg q2, tq]
      simp only [sI_s, upd_s, if_true]
      exact one
  · have tq : twoQ (σ.1 1) n i = false := by unfold twoQ; rw [decide_eq_false q1]; simp
    rw [if_pos (nI_le (by omega) (by omega)), tq]
    simp only [sI_s, upd_s, if_true]
    exact one
-- a token
theorem scT_run {n : Nat} : ∀ (j x N : Nat) (σ : St), ScR σ n → σ.1 34 4 = nI x → x ≤ n → n - x = j → j < N → ∃ σ', fX2_scanToken_L N σ = some (0, σ') ∧ ScK σ σ' ∧ σ'.1 34 9 = nI (upQ isB (σ.1 1) n x) ∧ σ'.1 34 4 = nI (lexK (σ.1 1) n (upQ isB (σ.1 1) n x)).2 ∧ σ'.1 34 5 = nI (lexK (σ.1 1) n (upQ isB (σ.1 1) n x)).1 ∧ ((lexK (σ.1 1) n (upQ isB (σ.1 1) n x)).1 = 14 → σ'.1 34 6 = digS (σ.1 1) (upQ isB (σ.1 1) n x) ((lexK (σ.1 1) n (upQ isB (σ.1 1) n x)).2 - upQ isB (σ.1 1) n x))
  | j, x, N + 1, σ, h, h4, hx, hj, hN => by
    have hn := h.2
    have e : fX2_scanToken_L (N + 1) σ = if atQ isB (σ.1 1) n x = true then fX2_scanToken_L N (sI σ 34 4 ((σ.1 34 4) + (1 : Int32))) else (qlet (sI σ 34 9 (σ.1 34 4)) (fun σ44 => qlet (fun (y115 : St) => (some ((0 : Int32), y115))) (fun j115 => (if (σ44.1 34 4) < (σ44.1 34 3) then (qix (σ44.1 34 4) 2000 (qcall (fX2_isLetter σ44 (σ44.1 1 (σ44.1 34 4).toNatClampNeg)) (fun r76 σ76 => if r76 = (0 : Int32) then (qix (σ76.1 34 4) 2000 (qcall (fX2_isDigit σ76 (σ76.1 1 (σ76.1 34 4).toNatClampNeg)) (fun r98 σ98 => if r98 = (0 : Int32) then (qcall (fX2_scanSign σ98) (fun _ σ112 => j115 σ112)) else (qcall (fX2_scanInt σ98) (fun _ σ105 => j115 σ105))))) else (qcall (fX2_scanWord σ76) (fun _ σ83 => j115 σ83))))) else (qlet (sI σ44 34 5 (25 : Int32)) (fun σ61 => j115 σ61)))))) := by
      rw [fX2_scanToken_L, qlet_e]
      exact scan_at isBlkC h h4 hx (fun y39 => (qlet (sI y39 34 9 (y39.1 34 4)) (fun σ44 => qlet (fun (y115 : St) => (some ((0 : Int32), y115))) (fun j115 => (if (σ44.1 34 4) < (σ44.1 34 3) then (qix (σ44.1 34 4) 2000 (qcall (fX2_isLetter σ44 (σ44.1 1 (σ44.1 34 4).toNatClampNeg)) (fun r76 σ76 => if r76 = (0 : Int32) then (qix (σ76.1 34 4) 2000 (qcall (fX2_isDigit σ76 (σ76.1 1 (σ76.1 34 4).toNatClampNeg)) (fun r98 σ98 => if r98 = (0 : Int32) then (qcall (fX2_scanSign σ98) (fun _ σ112 => j115 σ112)) else (qcall (fX2_scanInt σ98) (fun _ σ105 => j115 σ105))))) else (qcall (fX2_scanWord σ76) (fun _ σ83 => j115 σ83))))) else (qlet (sI σ44 34 5 (25 : Int32)) (fun σ61 => j115 σ61))))))) (fun σ20 => (qlet (sI σ20 34 4 ((σ20.1 34 4) + (1 : Int32))) (fun σ33 => fX2_scanToken_L N σ33)))
    rw [e]
    cases hq : atQ isB (σ.1 1) n x
    · rw [if_neg (by decide), upQ_no hq]
      have k9 := ScK.set σ (k := 9) (nI x) (by omega)
      have s4 : (sI σ 34 9 (nI x)).1 34 4 = nI x := by rw [sI_s, upd_n _ _ (by omega)]; exact h4
      have s9 : (sI σ 34 9 (nI x)).1 34 9 = nI x := by rw [sI_s, upd_s]
      have s3 : (sI σ 34 9 (nI x)).1 34 3 = nI n := (k9.r h).1
      have s1 : (sI σ 34 9 (nI x)).1 1 = σ.1 1 := k9.1 1 (by omega)
      rw [h4, qlet_e, qlet_e, s4, s3]
      generalize sI σ 34 9 (nI x) = τ at k9 s4 s9 s3 s1
      unfold lexK
      by_cases q1 : x < n
      · rw [if_pos (nI_lt q1 (by omega)), qix_nI (by omega) (by omega), nI_clamp (by omega), s1, isLetC, qcall_s, if_neg (show ¬ n ≤ x by omega)]
        cases q2 : isL (σ.1 1 x)
        · rw [if_pos b2f, if_neg (by decide), s4, qix_nI (by omega) (by omega), nI_clamp (by omega), s1, isDigC, qcall_s]
          cases q3 : isD (σ.1 1 x)
          · rw [if_pos b2f, if_neg (by decide)]
            obtain ⟨σ', a1, a2, a3, a4, a5⟩ := scS_is (k9.r h) s4 q1
            rw [a1, qcall_s]
            rw [s1] at a4 a5
            refine ⟨σ', rfl, k9.trans a2, a3.trans s9, ?_, ?_, ?_⟩
            · rw [a4]
              split <;> rfl
            · rw [a5]
              split <;> rfl
            · intro z
              exfalso
              cases q4 : twoQ (σ.1 1) n x
              · rw [q4, if_neg (by decide)] at z
                have z : signK (σ.1 1 x) = 14 := z
                unfold signK at z
                revert z
                repeat' split
                all_goals decide
              · rw [q4, if_pos rfl] at z
                have z : pairK (σ.1 1 x) = 14 := z
                unfold pairK at z
                revert z
                repeat' split
                all_goals decide
          · rw [if_neg b2t, if_pos rfl]
            obtain ⟨σ', a1, a2, a3, a4, a5, a6⟩ := scI_is (k9.r h) s4 s9 hx
            rw [a1, qcall_s]
            rw [s1] at a4 a5 a6
            exact ⟨σ', rfl, k9.trans a2, a3, a4, a5, fun _ => a6⟩
        · rw [if_neg b2t, if_pos rfl]
          obtain ⟨σ', a1, a2, a3, a4, a5⟩ := scW_is (k9.r h) s4 s9 hx
          rw [a1, qcall_s]
          rw [s1] at a3 a5
          refine ⟨σ', rfl, k9.trans a2, a4, a3, a5, fun z => ?_⟩
          exfalso
          have z : fstK (isW (σ.1 1) x (upQ isL (σ.1 1) n x)) 14 0 = 14 := z
          have := fstK_rng (P := isW (σ.1 1) x (upQ isL (σ.1 1) n x)) (j := 14) (k := 0) rfl
          omega
      · rw [if_neg (nI_nlt (by omega) (by omega)), qlet_e, if_pos (show n ≤ x by omega)]
        exact ⟨_, rfl, k9.trans (ScK.set τ (k := 5) 25 (by omega)), by rw [sI_s, upd_n _ _ (by omega)]; exact s9, by rw [sI_s, upd_n _ _ (by omega)]; exact s4, by rw [sI_s, upd_s]; rfl, fun z => absurd z (show ¬ 25 = 14 by omega)⟩
    · rw [if_pos rfl, h4, nI_1, upQ_go hq]
      have hlt := (atQ_lt hq).1
      have k := ScK.set σ (k := 4) (nI (x + 1)) (by omega)
      obtain ⟨σ', a1, a2, a3, a4, a5, a6⟩ := scT_run (j - 1) (x + 1) N (sI σ 34 4 (nI (x + 1))) (k.r h) (by rw [sI_s, upd_s]) (by omega) (by omega) (by omega)
      rw [k.1 1 (by omega)] at a3 a4 a5 a6
      exact ⟨σ', a1, k.trans a2, a3, a4, a5, a6⟩
/-- the k-th token -/
theorem scT_is {σ : St} {n k : Nat} (h : ScR σ n) (h4 : σ.1 34 4 = nI (tkP (σ.1 1) n k)) : ∃ σ', fX2_scanToken σ = some (0, σ') ∧ ScK σ σ' ∧ σ'.1 34 9 = nI (tkS (σ.1 1) n k) ∧ σ'.1 34 4 = nI (tkP (σ.1 1) n (k + 1)) ∧ σ'.1 34 5 = nI (tkK (σ.1 1) n k) ∧ (tkK (σ.1 1) n k = 14 → σ'.1 34 6 = tkV (σ.1 1) n k) := by
  have hn := h.2
  unfold fX2_scanToken
  exact scT_run (n - tkP (σ.1 1) n k) (tkP (σ.1 1) n k) 100000 σ h h4 (tkP_le _ _ _) rfl (by omega)
