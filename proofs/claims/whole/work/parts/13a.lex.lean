-- ===== the tokens of a text: their common meaning =====
def isB (x : Int32) : Bool := decide (x = 9) || decide (x = 10) || decide (x = 13) || decide (x = 32)
def isL (x : Int32) : Bool := !decide (x < 97) && !decide (122 < x)
def isD (x : Int32) : Bool := !decide (x < 48) && !decide (57 < x)
def atQ (p : Int32 → Bool) (f : Nat → Int32) (n i : Nat) : Bool := decide (i < n) && p (f i)
def runQ (q : Nat → Bool) : Nat → Nat → Nat
  | 0, i => i
  | m + 1, i => if q i = true then runQ q m (i + 1) else i
def upQ (p : Int32 → Bool) (f : Nat → Int32) (n i : Nat) : Nat := runQ (atQ p f n) (n - i) i
theorem atQ_out {p : Int32 → Bool} {f : Nat → Int32} {n i : Nat} (h : n ≤ i) : atQ p f n i = false := by
  unfold atQ
  rw [decide_eq_false (by omega), Bool.false_and]
theorem atQ_lt {p : Int32 → Bool} {f : Nat → Int32} {n i : Nat} (h : atQ p f n i = true) : i < n ∧ p (f i) = true := by
  unfold atQ at h
  rw [Bool.and_eq_true, decide_eq_true_eq] at h
  exact h
theorem upQ_go {p : Int32 → Bool} {f : Nat → Int32} {n i : Nat} (h : atQ p f n i = true) : upQ p f n i = upQ p f n (i + 1) := by
  have := (atQ_lt h).1
  unfold upQ
  rw [show n - i = n - (i + 1) + 1 by omega, runQ, if_pos h]
theorem upQ_no {p : Int32 → Bool} {f : Nat → Int32} {n i : Nat} (h : atQ p f n i = false) : upQ p f n i = i := by
  unfold upQ
  cases n - i with
  | zero => rfl
  | succ m => rw [runQ, if_neg (by rw [h]; decide)]
theorem runQ_is (q : Nat → Bool) : ∀ m i, i ≤ runQ q m i ∧ runQ q m i ≤ i + m ∧ (∀ x, i ≤ x → x < runQ q m i → q x = true) ∧ (runQ q m i < i + m → q (runQ q m i) = false)
  | 0, i => ⟨Nat.le_refl _, Nat.le_refl _, fun x h1 h2 => absurd h2 (by rw [runQ]; omega), fun h => absurd h (by rw [runQ]; omega)⟩
  | m + 1, i => by
    obtain ⟨a1, a2, a3, a4⟩ := runQ_is q m (i + 1)
    rw [runQ]
    by_cases h : q i = true
    · rw [if_pos h]
      refine ⟨by omega, by omega, fun x h1 h2 => ?_, fun h1 => a4 (by omega)⟩
      by_cases e : x = i
      · rw [e]; exact h
      · exact a3 x (by omega) h2
    · rw [if_neg h]
      exact ⟨Nat.le_refl _, by omega, fun x h1 h2 => absurd h2 (by omega), fun _ => by cases hq : q i; rfl; exact absurd hq h⟩
theorem upQ_is {p : Int32 → Bool} {f : Nat → Int32} {n i : Nat} (h : i ≤ n) : i ≤ upQ p f n i ∧ upQ p f n i ≤ n ∧ (∀ x, i ≤ x → x < upQ p f n i → p (f x) = true) ∧ atQ p f n (upQ p f n i) = false := by
  obtain ⟨a1, a2, a3, a4⟩ := runQ_is (atQ p f n) (n - i) i
  unfold upQ
  refine ⟨a1, by omega, fun x h1 h2 => (atQ_lt (a3 x h1 h2)).2, ?_⟩
  by_cases e : runQ (atQ p f n) (n - i) i < n
  · exact a4 (by omega)
  · exact atQ_out (by omega)
/-- the words, their places in the row of all -/
def wdT : List (Nat × Nat) := [(0, 5), (6, 3), (10, 4), (15, 2), (18, 2), (21, 3), (25, 4), (30, 4), (35, 5), (41, 4), (46, 5), (52, 5), (58, 6), (65, 5), (71, 0)]
def wdS (k : Nat) : Nat := (wdT.getD k (71, 0)).1
def wdL (k : Nat) : Nat := (wdT.getD k (71, 0)).2
theorem wd_all : ∀ k, k < 14 → wdS (k + 1) = wdS k + wdL k + 1 ∧ wdS k + wdL k < 71 ∧ wordsAt (wdS k + wdL k) = 32 ∧ 1 ≤ wdL k ∧ wdL k ≤ 6 ∧ ∀ x, x < 6 → x < wdL k → ¬ wordsAt (wdS k + x) = 32 := by decide +kernel
theorem wd_let : ∀ k, k < 14 → ∀ x, x < 6 → x < wdL k → isL (wordsAt (wdS k + x)) = true := by decide +kernel
def eqW (f : Nat → Int32) (i s : Nat) : Nat → Bool
  | 0 => true
  | m + 1 => eqW f i s m && decide (wordsAt (s + m) = f (i + m))
theorem eqW_iff {f : Nat → Int32} {i s : Nat} : ∀ {m : Nat}, eqW f i s m = true ↔ ∀ x, x < m → wordsAt (s + x) = f (i + x)
  | 0 => ⟨fun _ x h => absurd h (by omega), fun _ => rfl⟩
  | m + 1 => by
    rw [eqW, Bool.and_eq_true, eqW_iff, decide_eq_true_eq]
    constructor
    · intro ⟨h1, h2⟩ x hx
      by_cases e : x = m
      · rw [e]; exact h2
      · exact h1 x (by omega)
    · intro h
      exact ⟨fun x hx => h x (by omega), h m (by omega)⟩
def isW (f : Nat → Int32) (i j k : Nat) : Bool := decide (j - i = wdL k) && eqW f i (wdS k) (wdL k)
def fstK (P : Nat → Bool) : Nat → Nat → Nat
  | 0, _ => 26
  | j + 1, k => if P k = true then k else fstK P j (k + 1)
def lstK (P : Nat → Bool) : Nat → Nat → Int32 → Int32
  | 0, _, v => v
  | j + 1, k, v => lstK P j (k + 1) (if P k = true then nI (20 + k) else v)
theorem lstK_out {P : Nat → Bool} : ∀ {j k : Nat} {v : Int32}, (∀ x, k ≤ x → x < k + j → P x = false) → lstK P j k v = v
  | 0, k, v, _ => rfl
  | j + 1, k, v, h => by
    rw [lstK, h k (by omega) (by omega), if_neg (by decide)]
    exact lstK_out (fun x h1 h2 => h x (by omega) (by omega))
theorem fstK_is {P : Nat → Bool} : ∀ {j k : Nat} {v : Int32}, (∀ x y, P x = true → P y = true → x = y) → k + j = 14 → (fstK P j k = 26 ∧ lstK P j k v = v) ∨ (fstK P j k < 14 ∧ P (fstK P j k) = true ∧ lstK P j k v = nI (20 + fstK P j k))
  | 0, k, v, _, _ => Or.inl ⟨rfl, rfl⟩
  | j + 1, k, v, h, e => by
    rw [fstK, lstK]
    by_cases q : P k = true
    · rw [if_pos q, if_pos q]
      exact Or.inr ⟨by omega, q, lstK_out (fun x h1 h2 => by
        cases hx : P x
        · rfl
        · have := h x k hx q
          omega)⟩
    · rw [if_neg q, if_neg q]
      exact fstK_is h (by omega)
def pairK (x : Int32) : Nat := if x = 33 then 20 else if x = 60 then 22 else if x = 61 then 19 else 26
def signK (x : Int32) : Nat := if x = 40 then 23 else if x = 41 then 24 else if x = 42 then 18 else if x = 43 then 16 else if x = 45 then 17 else if x = 59 then 15 else if x = 60 then 21 else 26
def twoQ (f : Nat → Int32) (n i : Nat) : Bool := decide (i + 1 < n) && (decide (f (i + 1) = 61) && !decide (pairK (f i) = 26))
/-- the kind of the token that begins at a place that is no blank, and where it ends -/
def lexK (f : Nat → Int32) (n i : Nat) : Nat × Nat :=
  if n ≤ i then (25, i) else if isL (f i) = true then (fstK (isW f i (upQ isL f n i)) 14 0, upQ isL f n i) else if isD (f i) = true then (if upQ isD f n i - i ≤ 4 then 14 else 26, upQ isD f n i) else if twoQ f n i = true then (pairK (f i), i + 2) else (signK (f i), i + 1)
def digS (f : Nat → Int32) (i : Nat) : Nat → Int32
  | 0 => 0
  | m + 1 => digS f i m * 10 + f (i + m) - 48
def tkP (f : Nat → Int32) (n : Nat) : Nat → Nat
  | 0 => 0
  | k + 1 => (lexK f n (upQ isB f n (tkP f n k))).2
def tkS (f : Nat → Int32) (n k : Nat) : Nat := upQ isB f n (tkP f n k)
def tkK (f : Nat → Int32) (n k : Nat) : Nat := (lexK f n (tkS f n k)).1
def tkV (f : Nat → Int32) (n k : Nat) : Int32 := digS f (tkS f n k) (tkP f n (k + 1) - tkS f n k)
theorem fstK_rng {P : Nat → Bool} : ∀ {j k : Nat}, k + j = 14 → fstK P j k < 14 ∨ fstK P j k = 26
  | 0, k, _ => Or.inr rfl
  | j + 1, k, e => by
    rw [fstK]
    split
    · exact Or.inl (by omega)
    · exact fstK_rng (by omega)
theorem lexK_is {f : Nat → Int32} {n i : Nat} (h : i ≤ n) : i ≤ (lexK f n i).2 ∧ (lexK f n i).2 ≤ n ∧ (i < n → i < (lexK f n i).2) ∧ (lexK f n i).1 ≤ 26 ∧ ((lexK f n i).1 = 25 ↔ i = n) := by
  unfold lexK
  by_cases h1 : n ≤ i
  · rw [if_pos h1]
    exact ⟨by omega, h, fun q => by omega, by show 25 ≤ 26; omega, ⟨fun _ => by omega, fun _ => rfl⟩⟩
  · rw [if_neg h1]
    by_cases h2 : isL (f i) = true
    · rw [if_pos h2]
      have hq : atQ isL f n i = true := by unfold atQ; rw [h2, decide_eq_true (by omega)]; rfl
      have a := upQ_is (p := isL) (f := f) (n := n) (i := i + 1) (by omega)
      rw [← upQ_go hq] at a
      have c := fstK_rng (P := isW f i (upQ isL f n i)) (j := 14) (k := 0) rfl
      refine ⟨by omega, a.2.1, fun _ => by omega, ?_, ?_⟩
      · show fstK _ 14 0 ≤ 26
        omega
      · show fstK _ 14 0 = 25 ↔ _
        omega
    · rw [if_neg h2]
      by_cases h3 : isD (f i) = true
      · rw [if_pos h3]
        have hq : atQ isD f n i = true := by unfold atQ; rw [h3, decide_eq_true (by omega)]; rfl
        have a := upQ_is (p := isD) (f := f) (n := n) (i := i + 1) (by omega)
        rw [← upQ_go hq] at a
        refine ⟨by omega, a.2.1, fun _ => by omega, ?_, ?_⟩
        · show (if _ then 14 else 26) ≤ 26
          split <;> omega
        · show (if _ then 14 else 26) = 25 ↔ _
          split <;> omega
      · rw [if_neg h3]
        by_cases h4 : twoQ f n i = true
        · rw [if_pos h4]
          have h5 : i + 1 < n := by
            unfold twoQ at h4
            rw [Bool.and_eq_true, decide_eq_true_eq] at h4
            exact h4.1
          refine ⟨by omega, by omega, fun _ => by omega, ?_, ?_⟩
          · show pairK _ ≤ 26
            unfold pairK
            repeat' split
            all_goals omega
          · show pairK _ = 25 ↔ _
            unfold pairK
            repeat' split
            all_goals omega
        · rw [if_neg h4]
          refine ⟨by omega, by omega, fun _ => by omega, ?_, ?_⟩
          · show signK _ ≤ 26
            unfold signK
            repeat' split
            all_goals omega
          · show signK _ = 25 ↔ _
            unfold signK
            repeat' split
            all_goals omega
theorem tkP_le (f : Nat → Int32) (n : Nat) : ∀ k, tkP f n k ≤ n
  | 0 => Nat.zero_le _
  | k + 1 => (lexK_is (upQ_is (tkP_le f n k)).2.1).2.1
theorem tk_is (f : Nat → Int32) (n k : Nat) : tkP f n k ≤ tkS f n k ∧ tkS f n k ≤ n ∧ tkS f n k ≤ tkP f n (k + 1) ∧ tkP f n (k + 1) ≤ n ∧ tkK f n k ≤ 26 ∧ (tkK f n k = 25 ↔ tkS f n k = n) := by
  have a := upQ_is (p := isB) (f := f) (tkP_le f n k)
  have b := lexK_is (f := f) a.2.1
  exact ⟨a.1, a.2.1, b.1, tkP_le f n (k + 1), b.2.2.2.1, b.2.2.2.2⟩
/-- digits: at most four make a number below 10000 -/
theorem digS_is {f : Nat → Int32} {i : Nat} : ∀ {m : Nat}, (∀ x, x < m → isD (f (i + x)) = true) → m ≤ 4 → ∃ v, digS f i m = nI v ∧ v < 10 ^ m
  | 0, _, _ => ⟨0, rfl, by decide⟩
  | m + 1, h, hm => by
    obtain ⟨v, h1, h2⟩ := digS_is (m := m) (fun x hx => h x (by omega)) (by omega)
    have hd := h m (by omega)
    unfold isD at hd
    rw [Bool.and_eq_true, Bool.not_eq_true', Bool.not_eq_true', decide_eq_false_iff_not, decide_eq_false_iff_not, fa_lt, fa_lt, show (48 : Int32).toInt = 48 from by decide, show (57 : Int32).toInt = 57 from by decide] at hd
    obtain ⟨d, d1, e⟩ := nI_of (x := f (i + m)) (by rw [fa_lt, show (0 : Int32).toInt = 0 from by decide]; omega)
    have hd2 : 48 ≤ d ∧ d ≤ 57 := by
      rw [e, nI_toInt d1] at hd
      omega
    refine ⟨10 * v + (d - 48), ?_, by rw [Nat.pow_succ]; omega⟩
    rw [digS, h1, e, show (10 : Int32) = nI 10 from rfl, pk_mul, nI_add, show (48 : Int32) = nI 48 from rfl, pk_sub (by omega)]
    congr 1
    omega
