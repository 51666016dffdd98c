-- ===== the reference cuts its text =====
def HT (μ : St) (f : Nat → Int32) (n : Nat) : Prop := μ.1 0 4 = nI n ∧ n ≤ 2000 ∧ ∀ k, k < n → μ.1 2 k = f k ∧ (f k).toInt8.toInt32 = f k
def rcS (f : Nat → Int32) (n i : Nat) : Int32 := if i < n then f i &&& 255 else 0
theorem byte_and {x : Int32} (h : x.toInt8.toInt32 = x) : (¬ x < 0 ∧ x &&& 255 = x) ∨ (x < 0 ∧ 127 < x &&& 255) := by
  have r := fb_byte_rng x
  rw [h] at r
  have e : x &&& 255 = nI (x.toBitVec.toNat % 2 ^ 8) := pk_and x (m := 255) 8 (by decide)
  have t : x.toInt = if 2 * x.toBitVec.toNat < 2 ^ 32 then (x.toBitVec.toNat : Int) else (x.toBitVec.toNat : Int) - ((2 ^ 32 : Nat) : Int) := BitVec.toInt_eq_toNat_cond x.toBitVec
  have z : (0 : Int32).toInt = 0 := by decide
  have z2 : (127 : Int32).toInt = 127 := by decide
  have lt := x.toBitVec.isLt
  generalize x.toBitVec.toNat = N at e t lt
  rw [e, fa_lt, fa_lt, fa_eq, z, z2, nI_toInt (by omega)]
  by_cases q : 2 * N < 2 ^ 32
  · rw [if_pos q] at t
    left
    omega
  · rw [if_neg q] at t
    right
    omega
theorem at_is {μ : St} {f : Nat → Int32} {n i : Nat} (h : HT μ f n) (hi : i < 5000) : fX6_at μ (nI i) = some (rcS f n i, μ) := by
  have hn := h.2.1
  unfold fX6_at rcS
  rw [qlet_e, h.1]
  by_cases q : i < n
  · rw [if_neg (nI_ge q (by omega)), qix_nI (by omega) (by omega), nI_clamp (by omega), (h.2.2 i q).1, if_pos q]
  · rw [if_pos (nI_le (by omega) (by omega)), if_neg q]
theorem rcQ {p : Int32 → Bool} {μ : St} {f : Nat → Int32} {n i : Nat} (h : HT μ f n) (p0 : p 0 = false) (p1 : ∀ y, 127 < y → p y = false) (p2 : ∀ y, y < 0 → p y = false) : p (rcS f n i) = atQ p f n i := by
  unfold rcS atQ
  by_cases q : i < n
  · rw [if_pos q, decide_eq_true q, Bool.true_and]
    rcases byte_and (h.2.2 i q).2 with ⟨a, b⟩ | ⟨a, b⟩
    · rw [b]
    · rw [p1 _ b, p2 _ a]
  · rw [if_neg q, decide_eq_false q, Bool.false_and, p0]
theorem isL_rng {x : Int32} : isL x = true ↔ 97 ≤ x.toInt ∧ x.toInt ≤ 122 := by
  unfold isL
  rw [Bool.and_eq_true, Bool.not_eq_true', Bool.not_eq_true', decide_eq_false_iff_not, decide_eq_false_iff_not, fa_lt, fa_lt, show (97 : Int32).toInt = 97 from by decide, show (122 : Int32).toInt = 122 from by decide]
  omega
theorem isD_rng {x : Int32} : isD x = true ↔ 48 ≤ x.toInt ∧ x.toInt ≤ 57 := by
  unfold isD
  rw [Bool.and_eq_true, Bool.not_eq_true', Bool.not_eq_true', decide_eq_false_iff_not, decide_eq_false_iff_not, fa_lt, fa_lt, show (48 : Int32).toInt = 48 from by decide, show (57 : Int32).toInt = 57 from by decide]
  omega
theorem isB_rng {x : Int32} : isB x = true ↔ x.toInt = 9 ∨ x.toInt = 10 ∨ x.toInt = 13 ∨ x.toInt = 32 := by
  unfold isB
  rw [Bool.or_eq_true, Bool.or_eq_true, Bool.or_eq_true, decide_eq_true_eq, decide_eq_true_eq, decide_eq_true_eq, decide_eq_true_eq, fa_eq, fa_eq, fa_eq, fa_eq, show (9 : Int32).toInt = 9 from by decide, show (10 : Int32).toInt = 10 from by decide, show (13 : Int32).toInt = 13 from by decide, show (32 : Int32).toInt = 32 from by decide, or_assoc, or_assoc]
theorem boolF {b : Bool} (h : ¬ b = true) : b = false := by cases b; rfl; exact absurd rfl h
theorem rcL {μ : St} {f : Nat → Int32} {n i : Nat} (h : HT μ f n) : isL (rcS f n i) = atQ isL f n i := rcQ h (by decide) (fun y hy => boolF (fun q => by rw [isL_rng] at q; rw [fa_lt, show (127 : Int32).toInt = 127 from by decide] at hy; omega)) (fun y hy => boolF (fun q => by rw [isL_rng] at q; rw [fa_lt, show (0 : Int32).toInt = 0 from by decide] at hy; omega))
theorem rcD {μ : St} {f : Nat → Int32} {n i : Nat} (h : HT μ f n) : isD (rcS f n i) = atQ isD f n i := rcQ h (by decide) (fun y hy => boolF (fun q => by rw [isD_rng] at q; rw [fa_lt, show (127 : Int32).toInt = 127 from by decide] at hy; omega)) (fun y hy => boolF (fun q => by rw [isD_rng] at q; rw [fa_lt, show (0 : Int32).toInt = 0 from by decide] at hy; omega))
theorem rcB {μ : St} {f : Nat → Int32} {n i : Nat} (h : HT μ f n) : isB (rcS f n i) = atQ isB f n i := rcQ h (by decide) (fun y hy => boolF (fun q => by rw [isB_rng] at q; rw [fa_lt, show (127 : Int32).toInt = 127 from by decide] at hy; omega)) (fun y hy => boolF (fun q => by rw [isB_rng] at q; rw [fa_lt, show (0 : Int32).toInt = 0 from by decide] at hy; omega))
/-- a byte is a sign of below 128, or not -/
theorem rc_eq {μ : St} {f : Nat → Int32} {n i : Nat} {c : Int32} (h : HT μ f n) (hi : i < n) (hc : 0 ≤ c.toInt ∧ c.toInt < 128) : (rcS f n i = c) = (f i = c) := by
  unfold rcS
  rw [if_pos hi]
  rcases byte_and (h.2.2 i hi).2 with ⟨a, b⟩ | ⟨a, b⟩
  · rw [b]
  · rw [fa_lt, show (0 : Int32).toInt = 0 from by decide] at a
    rw [fa_lt, show (127 : Int32).toInt = 127 from by decide] at b
    apply propext
    constructor
    · intro q
      rw [q] at b
      omega
    · intro q
      rw [q] at a
      omega
theorem rc_pos {μ : St} {f : Nat → Int32} {n i : Nat} (h : HT μ f n) (hi : i < n) (hp : 0 ≤ (f i).toInt) : rcS f n i = f i := by
  unfold rcS
  rw [if_pos hi]
  rcases byte_and (h.2.2 i hi).2 with ⟨a, b⟩ | ⟨a, b⟩
  · exact b
  · rw [fa_lt, show (0 : Int32).toInt = 0 from by decide] at a
    omega
theorem isLetM (σ : St) (x : Int32) : fX6_isLetter σ x = some (b2 (isL x), σ) := by
  unfold fX6_isLetter
  simp only [qlet]
  rw [ifL]
  cases isL x <;> rfl
theorem isDigM (σ : St) (x : Int32) : fX6_isDigit σ x = some (b2 (isD x), σ) := by
  unfold fX6_isDigit
  simp only [qlet]
  rw [ifD]
  cases isD x <;> rfl
-- tokens
def rkT : List Nat := [20, 21, 22, 23, 24, 25, 26, 27, 28, 29, 30, 31, 32, 33, 2, 4, 8, 9, 10, 11, 12, 13, 14, 6, 7, 0]
def KR (c : Nat) (x : Int32) : Prop := (c ≤ 25 ∧ x = nI (rkT.getD c 0)) ∨ (c = 26 ∧ (x = 1 ∨ x = 3))
def tokS (μ : St) (k : Nat) (a1 a2 a3 : Int32) (a4 : Int64) : St := sI (sJ (sI (sI (sI μ 3 k a1) 4 k a2) 5 k a3) 6 k a4) 0 10 (nI (k + 1))
theorem tok_is {μ : St} {k : Nat} {a1 a2 a3 : Int32} {a4 : Int64} (h : μ.1 0 10 = nI k) (hk : k < 403) : fX6_token μ a1 a2 a3 a4 = some (0, tokS μ k a1 a2 a3 a4) := by
  have e1 : (sI μ 3 k a1).1 0 10 = nI k := by rw [sI_n _ _ _ _ (by omega)]; exact h
  have e2 : (sI (sI μ 3 k a1) 4 k a2).1 0 10 = nI k := by rw [sI_n _ _ _ _ (by omega)]; exact e1
  have e3 : (sI (sI (sI μ 3 k a1) 4 k a2) 5 k a3).1 0 10 = nI k := by rw [sI_n _ _ _ _ (by omega)]; exact e2
  have e4 : (sJ (sI (sI (sI μ 3 k a1) 4 k a2) 5 k a3) 6 k a4).1 0 10 = nI k := e3
  unfold fX6_token
  rw [h, qix_nI hk (by omega), nI_clamp (by omega), qlet_e, e1, qix_nI hk (by omega), nI_clamp (by omega), qlet_e, e2, qix_nI hk (by omega), nI_clamp (by omega), qlet_e, e3, qix_nI hk (by omega), nI_clamp (by omega), qlet_e, e4, nI_1, qlet_e]
  rfl
def CutK (μ μ' : St) : Prop := (∀ i, i ≠ 0 → i ≠ 3 → i ≠ 4 → i ≠ 5 → μ'.1 i = μ.1 i) ∧ (∀ i, i ≠ 10 → μ'.1 0 i = μ.1 0 i) ∧ (∀ i, i ≠ 6 → μ'.2.1 i = μ.2.1 i) ∧ μ'.2.2 = μ.2.2
theorem CutK.rf (μ : St) : CutK μ μ := ⟨fun _ _ _ _ _ => rfl, fun _ _ => rfl, fun _ _ => rfl, rfl⟩
theorem CutK.trans {a b c : St} (h : CutK a b) (g : CutK b c) : CutK a c := ⟨fun i h1 h2 h3 h4 => (g.1 i h1 h2 h3 h4).trans (h.1 i h1 h2 h3 h4), fun i hi => (g.2.1 i hi).trans (h.2.1 i hi), fun i hi => (g.2.2.1 i hi).trans (h.2.2.1 i hi), g.2.2.2.trans h.2.2.2⟩
theorem tok_k (μ : St) (k : Nat) (a1 a2 a3 : Int32) (a4 : Int64) : CutK μ (tokS μ k a1 a2 a3 a4) ∧ (tokS μ k a1 a2 a3 a4).1 0 10 = nI (k + 1) ∧ (tokS μ k a1 a2 a3 a4).1 3 = upd (μ.1 3) k a1 ∧ (tokS μ k a1 a2 a3 a4).1 4 = upd (μ.1 4) k a2 ∧ (tokS μ k a1 a2 a3 a4).1 5 = upd (μ.1 5) k a3 := by
  unfold tokS
  refine ⟨⟨fun i h1 h2 h3 h4 => ?_, fun i hi => ?_, fun i hi => ?_, rfl⟩, ?_, ?_, ?_, ?_⟩
  · rw [sI_n _ _ _ _ h1, sJ_1, sI_n _ _ _ _ h4, sI_n _ _ _ _ h3, sI_n _ _ _ _ h2]
  · rw [sI_s, upd_n _ _ hi, sJ_1, sI_n _ _ _ _ (by omega), sI_n _ _ _ _ (by omega), sI_n _ _ _ _ (by omega)]
  · show (if i = 6 then _ else μ.2.1 i) = _
    rw [if_neg hi]
  · rw [sI_s, upd_s]
  · rw [sI_n _ _ _ _ (by omega), sJ_1, sI_n _ _ _ _ (by omega), sI_n _ _ _ _ (by omega), sI_s]
  · rw [sI_n _ _ _ _ (by omega), sJ_1, sI_n _ _ _ _ (by omega), sI_s, sI_n _ _ _ _ (by omega)]
  · rw [sI_n _ _ _ _ (by omega), sJ_1, sI_s, sI_n _ _ _ _ (by omega), sI_n _ _ _ _ (by omega)]
theorem CutK.ht {μ μ' : St} {f : Nat → Int32} {n : Nat} (k : CutK μ μ') (h : HT μ f n) : HT μ' f n := ⟨by rw [k.2.1 4 (by omega)]; exact h.1, h.2.1, by rw [k.1 2 (by omega) (by omega) (by omega) (by omega)]; exact h.2.2⟩
theorem CutK.keys {μ μ' : St} (k : CutK μ μ') (h : Keys μ) : Keys μ' := by
  unfold Keys
  rw [k.2.2.1 7 (by omega)]
  exact h
def TokM (f : Nat → Int32) (n : Nat) (μ : St) (j : Nat) : Prop := KR (tkK f n j) (μ.1 3 j) ∧ μ.1 4 j = nI (tkS f n j) ∧ (tkK f n j = 14 → μ.1 5 j = tkV f n j)
theorem TokM.tok {f : Nat → Int32} {n : Nat} {μ : St} {j k : Nat} {a1 a2 a3 : Int32} {a4 : Int64} (h : TokM f n μ j) (hj : j < k) : TokM f n (tokS μ k a1 a2 a3 a4) j := by
  obtain ⟨-, -, t3, t4, t5⟩ := tok_k μ k a1 a2 a3 a4
  unfold TokM
  rw [t3, t4, t5, upd_n _ _ (by omega), upd_n _ _ (by omega), upd_n _ _ (by omega)]
  exact h
theorem TokM.new {f : Nat → Int32} {n : Nat} {μ : St} {k : Nat} {a1 a2 a3 : Int32} {a4 : Int64} (h1 : KR (tkK f n k) a1) (h2 : a2 = nI (tkS f n k)) (h3 : tkK f n k = 14 → a3 = tkV f n k) : TokM f n (tokS μ k a1 a2 a3 a4) k := by
  obtain ⟨-, -, t3, t4, t5⟩ := tok_k μ k a1 a2 a3 a4
  unfold TokM
  rw [t3, t4, t5, upd_s, upd_s, upd_s]
  exact ⟨h1, h2, h3⟩
-- names
def hN (F : Nat → Nat) : Nat → Nat
  | 0 => 0
  | m + 1 => 27 * hN F m + F m
theorem hN_inj {F G : Nat → Nat} : ∀ {m l : Nat}, hN F m = hN G l → (∀ x, x < m → 1 ≤ F x ∧ F x ≤ 26) → (∀ x, x < l → 1 ≤ G x ∧ G x ≤ 26) → m = l ∧ ∀ x, x < m → F x = G x
  | 0, 0, _, _, _ => ⟨rfl, fun x h => absurd h (by omega)⟩
  | 0, l + 1, h, _, g => by
    have := g l (by omega)
    rw [hN, hN] at h
    omega
  | m + 1, 0, h, f, _ => by
    have := f m (by omega)
    rw [hN, hN] at h
    omega
  | m + 1, l + 1, h, f, g => by
    have f1 := f m (by omega)
    have g1 := g l (by omega)
    rw [hN, hN] at h
    obtain ⟨e1, e2⟩ := hN_inj (F := F) (G := G) (m := m) (l := l) (by omega) (fun x hx => f x (by omega)) (fun x hx => g x (by omega))
    refine ⟨by omega, fun x hx => ?_⟩
    by_cases q : x = m
    · rw [q]
      subst e1
      omega
    · exact e2 x (by omega)
def dgS (x : Int32) : Nat := x.toInt.toNat - 96
theorem dgS_is {x : Int32} (h : isL x = true) : 1 ≤ dgS x ∧ dgS x ≤ 26 ∧ x = nI (dgS x + 96) := by
  rw [isL_rng] at h
  unfold dgS
  refine ⟨by omega, by omega, (fa_eq _ _).mpr (by rw [nI_toInt (by omega)]; omega)⟩
theorem key_is : ∀ k, k < 14 → keyT.getD k 0 = hN (fun x => dgS (wordsAt (wdS k + x))) (wdL k) := by decide +kernel
theorem key_one : ∀ a, a < 14 → ∀ b, b < 14 → keyT.getD a 0 = keyT.getD b 0 → a = b := by decide +kernel
theorem key_lt : ∀ k, k < 14 → keyT.getD k 0 < 2 ^ 60 := by decide +kernel
theorem hN_cong {F G : Nat → Nat} : ∀ {m : Nat}, (∀ x, x < m → F x = G x) → hN F m = hN G m
  | 0, _ => rfl
  | m + 1, h => by rw [hN, hN, hN_cong (fun x hx => h x (by omega)), h m (by omega)]
theorem wdG {k x : Nat} (hk : k < 14) (hx : x < wdL k) : 1 ≤ dgS (wordsAt (wdS k + x)) ∧ dgS (wordsAt (wdS k + x)) ≤ 26 ∧ wordsAt (wdS k + x) = nI (dgS (wordsAt (wdS k + x)) + 96) := dgS_is (wd_let k hk x (by have := (wd_all k hk).2.2.2.2.1; omega) hx)
theorem isW_key1 {f : Nat → Int32} {i j k : Nat} (hk : k < 14) (h : isW f i j k = true) : keyT.getD k 0 = hN (fun x => dgS (f (i + x))) (j - i) := by
  unfold isW at h
  rw [Bool.and_eq_true, decide_eq_true_eq, eqW_iff] at h
  rw [h.1]
  exact (key_is k hk).trans (hN_cong (fun x hx => congrArg dgS (h.2 x hx)))
theorem isW_key2 {f : Nat → Int32} {i j k : Nat} (hl : ∀ x, x < j - i → isL (f (i + x)) = true) (hk : k < 14) (h : keyT.getD k 0 = hN (fun x => dgS (f (i + x))) (j - i)) : isW f i j k = true := by
  have h2 := (key_is k hk).symm.trans h
  obtain ⟨e1, e2⟩ := hN_inj (F := fun x => dgS (wordsAt (wdS k + x))) (G := fun x => dgS (f (i + x))) (m := wdL k) (l := j - i) h2 (fun x hx => ⟨(wdG hk hx).1, (wdG hk hx).2.1⟩) (fun x hx => ⟨(dgS_is (hl x hx)).1, (dgS_is (hl x hx)).2.1⟩)
  unfold isW
  rw [Bool.and_eq_true, decide_eq_true_eq, eqW_iff]
  refine ⟨e1.symm, fun x hx => ?_⟩
  have a := (wdG hk hx).2.2
  have b := (dgS_is (hl x (by omega))).2.2
  have c : dgS (wordsAt (wdS k + x)) = dgS (f (i + x)) := e2 x hx
  exact a.trans ((congrArg (fun z => nI (z + 96)) c).trans b.symm)
theorem isW_key {f : Nat → Int32} {i j k : Nat} (hl : ∀ x, x < j - i → isL (f (i + x)) = true) (hk : k < 14) : isW f i j k = true ↔ keyT.getD k 0 = hN (fun x => dgS (f (i + x))) (j - i) := ⟨isW_key1 hk, isW_key2 hl hk⟩
theorem isW_one {f : Nat → Int32} {i j : Nat} (hl : ∀ x, x < j - i → isL (f (i + x)) = true) (hj : i < j) : ∀ x y, isW f i j x = true → isW f i j y = true → x = y := by
  have lt : ∀ x, isW f i j x = true → x < 14 := fun x hx => by
    by_cases q : x < 14
    · exact q
    · unfold isW at hx
      rw [Bool.and_eq_true, decide_eq_true_eq] at hx
      have : wdL x = 0 := by
        unfold wdL wdT
        by_cases q2 : x = 14
        · rw [q2]; rfl
        · rw [List.getD_eq_getElem?_getD, List.getElem?_eq_none (by simp; omega)]
          rfl
      omega
  intro x y hx hy
  exact key_one x (lt x hx) y (lt y hy) (((isW_key hl (lt x hx)).mp hx).trans ((isW_key hl (lt y hy)).mp hy).symm)
theorem hN_lt {F : Nat → Nat} : ∀ {m : Nat}, (∀ x, x < m → F x ≤ 26) → hN F m < 27 ^ m
  | 0, _ => Nat.zero_lt_one
  | m + 1, h => by
    have a := hN_lt (m := m) (fun x hx => h x (by omega))
    have b := h m (by omega)
    rw [hN, Nat.pow_succ]
    omega
