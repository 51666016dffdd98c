-- ===== the reference cuts: its loop =====
theorem lgc0 (x y : Int64) : lg_cmp x y = 0 ↔ x = y := by
  unfold lg_cmp
  by_cases h : x > y
  · rw [if_pos h]
    constructor
    · intro q
      exact absurd q (by decide)
    · intro q
      rw [q] at h
      exact absurd h (Int64.lt_irrefl)
  · rw [if_neg h]
    by_cases q : x = y
    · rw [if_pos q]
      exact ⟨fun _ => q, fun _ => rfl⟩
    · rw [if_neg q]
      exact ⟨fun h => absurd h (by decide), fun h => absurd h q⟩
theorem c400 {k : Nat} (h : k ≤ 400) : ¬ (400 : Int32) < nI k := nI_nlt (a := 400) h (by omega)
/-- at the head of the loop: full, the end, a blank, a letter, a digit, a sign -/
theorem cut_full {μ : St} {N : Nat} {v1 a b c d : Int32} {w : Int64} (h : μ.1 0 10 = nI 401) : fX6_cut_L (N + 1) 0 v1 a w b c d μ = some (0, μ) := by
  rw [fX6_cut_L, if_pos rfl, h, if_pos (by decide)]
theorem cut_head {μ : St} {f : Nat → Int32} {n i k N : Nat} {a b c d : Int32} {w : Int64} (h : HT μ f n) (hk : μ.1 0 10 = nI k) (hk4 : k ≤ 400) (hi : i ≤ n) : fX6_cut_L (N + 1) 0 (nI i) a w b c d μ = if i < n then (if atQ isB f n i = true then fX6_cut_L N 5 (nI (i + 1)) 0 0 0 0 0 μ else if atQ isL f n i = true then fX6_cut_L N 1 (nI i) 0 0 0 0 0 μ else if atQ isD f n i = true then fX6_cut_L N 4 (nI i) 0 0 0 0 0 μ else qcall (fX6_sign μ (nI i) (rcS f n i) (rcS f n (i + 1))) (fun r286 σ286 => fX6_cut_L N 5 (nI i + r286) 0 0 0 0 0 σ286)) else some (0, tokS μ k 0 (nI n) 0 0) := by
  have hn := h.2.1
  rw [fX6_cut_L, if_pos rfl, hk, if_neg (c400 hk4), at_is h (by omega), qcall_s, h.1]
  by_cases q : i < n
  · rw [if_pos (nI_lt q (by omega)), if_pos q]
    simp only [qlet_e]
    rw [ifB, rcB h, nI_1]
    cases q1 : atQ isB f n i
    · rw [if_neg (by decide), if_neg (by decide), isLetM, qcall_s, rcL h]
      cases q2 : atQ isL f n i
      · rw [if_pos b2f, if_neg (by decide), isDigM, qcall_s, rcD h]
        cases q3 : atQ isD f n i
        · rw [if_pos b2f, if_neg (by decide), at_is h (by omega), qcall_s]
        · rw [if_neg b2t, if_pos rfl]
      · rw [if_neg b2t, if_pos rfl]
    · rw [if_pos rfl, if_pos rfl]
  · rw [if_neg (nI_nlt (by omega) (by omega)), if_neg q, tok_is hk (by omega), qcall_s]
theorem cut_5 {μ : St} {N : Nat} {v1 a b c d : Int32} {w : Int64} : fX6_cut_L (N + 1) 5 v1 a w b c d μ = fX6_cut_L N 0 v1 0 0 0 0 0 μ := by
  rw [fX6_cut_L, if_neg (by decide), if_neg (by decide), if_neg (by decide), if_neg (by decide), if_neg (by decide)]
theorem cut_3 {μ : St} {i m k N : Nat} {w : Int64} {v6 c d : Int32} (hk : μ.1 0 10 = nI k) (hk4 : k ≤ 400) : fX6_cut_L (N + 2) 3 (nI i) (nI m) w v6 c d μ = fX6_cut_L N 0 (nI (i + m)) 0 0 0 0 0 (tokS μ k v6 (nI i) 0 w) := by
  rw [fX6_cut_L, if_neg (by decide), if_neg (by decide), if_neg (by decide), if_pos rfl, tok_is hk (by omega), qcall_s, qlet_e, nI_add, cut_5]
-- the keys
theorem cut_2 {μ : St} {i m N nm : Nat} (K : Keys μ) (hm : nm < 2 ^ 63) : ∀ (j k : Nat) (v6 : Int32) {d : Int32}, k + j = 14 → fX6_cut_L (N + (j + 1)) 2 (nI i) (nI m) (lN nm) v6 (nI k) d μ = fX6_cut_L N 3 (nI i) (nI m) (lN nm) (lstK (fun x => decide (keyT.getD x 0 = nm)) j k v6) 0 0 μ
  | 0, k, v6, d, hk => by
    have : k = 14 := hk
    subst this
    rw [fX6_cut_L, if_neg (by decide), if_neg (by decide), if_pos rfl, if_pos (by decide), lstK]
  | j + 1, k, v6, d, hk => by
    have e : keyT.getD k 0 < 2 ^ 60 := key_lt k (by omega)
    rw [show N + (j + 1 + 1) = N + (j + 1) + 1 by omega, fX6_cut_L, if_neg (by decide), if_neg (by decide), if_pos rfl, if_neg (show ¬ (14 : Int32) ≤ nI k from nI_ge (b := 14) (by omega) (by omega)), qix_nI (by omega) (by omega), qlet_e, nI_clamp (by omega), K k (by omega), lstK]
    by_cases q : keyT.getD k 0 = nm
    · rw [if_pos ((lgc0 _ _).mpr (by rw [q])), if_pos (decide_eq_true q)]
      simp only [qlet_e, nI_1]
      rw [show (20 : Int32) = nI 20 from rfl, nI_add]
      exact cut_2 K hm j (k + 1) _ (by omega)
    · rw [if_neg (fun h => q ((pk_lEQ (by omega) hm).mp ((lgc0 _ _).mp h))), if_neg (by rw [decide_eq_false q]; decide)]
      simp only [qlet_e, nI_1]
      exact cut_2 K hm j (k + 1) _ (by omega)
-- letters
theorem more_is {μ : St} {a : Nat} {x : Int32} (hx : isL x = true) : fX6_more μ (lN a) x = some (lN (27 * a + dgS x), μ) := by
  obtain ⟨h1, h2, h3⟩ := dgS_is hx
  unfold fX6_more
  rw [qlet_e, h3, if_neg (nI_ne0 (by omega) (by omega)), show (97 : Int32) = nI 97 from rfl, pk_sub (by omega), nI_1, show dgS x + 96 - 97 + 1 = dgS x by omega, nI_l (by omega), show (27 : Int64) = lN 27 from rfl, lN_mul, lN_add, ← h3]
theorem cut_1 {μ : St} {f : Nat → Int32} {n i : Nat} (h : HT μ f n) (hi : i ≤ n) : ∀ (j x N : Nat) {b c d : Int32}, i + x + j = upQ isL f n i → (∀ y, y < x → isL (f (i + y)) = true) → fX6_cut_L (N + j) 1 (nI i) (nI x) (lN (hN (fun y => dgS (f (i + y))) (min x 8))) 0 0 0 μ = fX6_cut_L N 1 (nI i) (nI (x + j)) (lN (hN (fun y => dgS (f (i + y))) (min (x + j) 8))) 0 0 0 μ
  | 0, x, N, b, c, d, _, _ => rfl
  | j + 1, x, N, b, c, d, e, hy => by
    have hn := h.2.1
    have u := upQ_is (p := isL) (f := f) hi
    have hl : isL (f (i + x)) = true := u.2.2.1 (i + x) (by omega) (by omega)
    have hq : atQ isL f n (i + x) = true := by unfold atQ; rw [hl, decide_eq_true (by omega)]; rfl
    have hr : rcS f n (i + x) = f (i + x) := rc_pos h (by omega) (by rw [isL_rng] at hl; omega)
    have ih := cut_1 (b := b) (c := c) (d := d) h hi j (x + 1) N (by omega) (fun y hy2 => by
      by_cases q : y = x
      · rw [q]; exact hl
      · exact hy y (by omega))
    rw [show N + (j + 1) = N + j + 1 by omega, fX6_cut_L, if_neg (by decide), if_pos rfl, nI_add, at_is h (by omega), qcall_s, isLetM, qcall_s, rcL h, hq, if_neg b2t]
    simp only [qlet_e, nI_1]
    by_cases q : x < 8
    · rw [if_neg (show ¬ (8 : Int32) ≤ nI x from nI_ge (b := 8) q (by omega)), at_is h (by omega), qcall_s, hr, more_is hl, qcall_s, show min x 8 = x by omega]
      rw [show min (x + 1) 8 = x + 1 by omega, hN] at ih
      rw [show x + (j + 1) = x + 1 + j by omega]
      exact ih
    · rw [if_pos (show (8 : Int32) ≤ nI x from nI_le (a := 8) (by omega) (by omega)), show min x 8 = 8 by omega]
      rw [show min (x + 1) 8 = 8 by omega] at ih
      rw [show x + (j + 1) = x + 1 + j by omega]
      exact ih
theorem cut_word {μ : St} {f : Nat → Int32} {n i k N : Nat} (h : HT μ f n) (K : Keys μ) (hk : μ.1 0 10 = nI k) (hk4 : k ≤ 400) (hi : i < n) (hl : isL (f i) = true) (hN2 : upQ isL f n i - i + 18 ≤ N) : ∃ N' v6 w, fX6_cut_L N 1 (nI i) 0 0 0 0 0 μ = fX6_cut_L N' 0 (nI (upQ isL f n i)) 0 0 0 0 0 (tokS μ k v6 (nI i) 0 w) ∧ N ≤ N' + (upQ isL f n i - i) + 18 ∧ KR (fstK (isW f i (upQ isL f n i)) 14 0) v6 := by
  have hn := h.2.1
  have u := upQ_is (p := isL) (f := f) (show i ≤ n by omega)
  have u1 : i < upQ isL f n i := by
    have hq : atQ isL f n i = true := by unfold atQ; rw [hl, decide_eq_true hi]; rfl
    rw [upQ_go hq]
    have := (upQ_is (p := isL) (f := f) (show i + 1 ≤ n by omega)).1
    omega
  generalize hj : upQ isL f n i = J at u u1 hN2
  have hall : ∀ x, x < J - i → isL (f (i + x)) = true := fun x hx => u.2.2.1 (i + x) (by omega) (by omega)
  obtain ⟨M, rfl⟩ : ∃ M, N = M + 18 + (J - i) := ⟨N - 18 - (J - i), by omega⟩
  have c1 := cut_1 (b := 0) (c := 0) (d := 0) h (show i ≤ n by omega) (J - i) 0 (M + 18) (by rw [hj]; omega) (fun y hy => absurd hy (by omega))
  rw [Nat.zero_add] at c1
  have c1' : fX6_cut_L (M + 18 + (J - i)) 1 (nI i) 0 0 0 0 0 μ = _ := c1
  rw [c1', show M + 18 = M + 17 + 1 by omega, fX6_cut_L, if_neg (by decide), if_pos rfl, nI_add, show i + (J - i) = J by omega, at_is h (by omega), qcall_s, isLetM, qcall_s, rcL h, u.2.2.2, if_pos b2f]
  simp only [qlet_e]
  have hw : hN (fun y => dgS (f (i + y))) (min (J - i) 8) < 27 ^ 8 := by
    have a := hN_lt (F := fun y => dgS (f (i + y))) (m := min (J - i) 8) (fun x hx => (dgS_is (hall x (by omega))).2.1)
    exact Nat.lt_of_lt_of_le a (Nat.pow_le_pow_right (by omega) (by omega))
  have one := isW_one hall u1
  by_cases q7 : J - i ≤ 7
  · rw [if_pos (show nI (J - i) ≤ 8 from nI_le (b := 8) (by omega) (by omega)), if_neg (show ¬ (7 : Int32) < nI (J - i) from nI_nlt (a := 7) q7 (by omega))]
    have c2 := cut_2 (i := i) (m := J - i) (N := M + 2) K (nm := hN (fun y => dgS (f (i + y))) (min (J - i) 8)) (by omega) 14 0 1 (d := 0) rfl
    have c2' : fX6_cut_L (M + 17) 2 (nI i) (nI (J - i)) (lN (hN (fun y => dgS (f (i + y))) (min (J - i) 8))) 1 0 0 μ = _ := c2
    rw [c2', cut_3 hk hk4, show i + (J - i) = J by omega]
    refine ⟨M, _, _, rfl, by omega, ?_⟩
    have e : ∀ x, x < 14 → isW f i J x = decide (keyT.getD x 0 = hN (fun y => dgS (f (i + y))) (min (J - i) 8)) := fun x hx => by
      rw [show min (J - i) 8 = J - i by omega]
      have := isW_key hall hx
      cases hq : isW f i J x
      · rw [decide_eq_false (fun z => by rw [this.mpr z] at hq; exact absurd hq (by decide))]
      · rw [decide_eq_true (this.mp hq)]
    have el : ∀ j k v, k + j = 14 → lstK (fun x => decide (keyT.getD x 0 = hN (fun y => dgS (f (i + y))) (min (J - i) 8))) j k v = lstK (isW f i J) j k v := by
      intro j
      induction j with
      | zero => intro k v _; rfl
      | succ j ih =>
        intro k v hk2
        rw [lstK, lstK, ih _ _ (by omega), e k (by omega)]
    rw [el 14 0 1 rfl]
    rcases fstK_is (P := isW f i J) (j := 14) (k := 0) (v := 1) one rfl with ⟨a1, a2⟩ | ⟨a1, a2, a3⟩
    · rw [a1, a2]
      exact Or.inr ⟨rfl, Or.inl rfl⟩
    · rw [a3]
      left
      refine ⟨by omega, ?_⟩
      generalize fstK (isW f i J) 14 0 = z at a1
      rcases (show z = 0 ∨ z = 1 ∨ z = 2 ∨ z = 3 ∨ z = 4 ∨ z = 5 ∨ z = 6 ∨ z = 7 ∨ z = 8 ∨ z = 9 ∨ z = 10 ∨ z = 11 ∨ z = 12 ∨ z = 13 by omega) with rfl | rfl | rfl | rfl | rfl | rfl | rfl | rfl | rfl | rfl | rfl | rfl | rfl | rfl <;> rfl
  · have no : fstK (isW f i J) 14 0 = 26 := by
      rcases fstK_is (P := isW f i J) (j := 14) (k := 0) (v := 1) one rfl with ⟨a1, a2⟩ | ⟨a1, a2, a3⟩
      · exact a1
      · unfold isW at a2
        rw [Bool.and_eq_true, decide_eq_true_eq] at a2
        have := (wd_all _ a1).2.2.2.2.1
        have a2 := a2.1
        unfold isW at this
        omega
    rw [if_pos (show (7 : Int32) < nI (J - i) from nI_lt (a := 7) (by omega) (by omega)), if_pos (show (7 : Int32) < nI (J - i) from nI_lt (a := 7) (by omega) (by omega))]
    by_cases q8 : J - i ≤ 8
    · rw [if_pos (show nI (J - i) ≤ 8 from nI_le (b := 8) (by omega) (by omega)), show M + 17 = M + 15 + 2 by omega, cut_3 hk hk4, show i + (J - i) = J by omega]
      exact ⟨M + 15, _, _, rfl, by omega, by rw [no]; exact Or.inr ⟨rfl, Or.inl rfl⟩⟩
    · rw [if_neg (show ¬ nI (J - i) ≤ 8 from nI_ge (a := 8) (by omega) (by omega)), show M + 17 = M + 15 + 2 by omega, cut_3 hk hk4, show i + (J - i) = J by omega]
      exact ⟨M + 15, _, _, rfl, by omega, by rw [no]; exact Or.inr ⟨rfl, Or.inr rfl⟩⟩
-- digits
theorem cut_4 {μ : St} {f : Nat → Int32} {n i : Nat} (h : HT μ f n) (hi : i ≤ n) : ∀ (j x N : Nat), i + x + j = upQ isD f n i → fX6_cut_L (N + j) 4 (nI i) (nI x) 0 0 0 (digS f i (min x 4)) μ = fX6_cut_L N 4 (nI i) (nI (x + j)) 0 0 0 (digS f i (min (x + j) 4)) μ
  | 0, x, N, _ => rfl
  | j + 1, x, N, e => by
    have hn := h.2.1
    have u := upQ_is (p := isD) (f := f) hi
    have hl : isD (f (i + x)) = true := u.2.2.1 (i + x) (by omega) (by omega)
    have hq : atQ isD f n (i + x) = true := by unfold atQ; rw [hl, decide_eq_true (by omega)]; rfl
    have hr : rcS f n (i + x) = f (i + x) := rc_pos h (by omega) (by rw [isD_rng] at hl; omega)
    have ih := cut_4 h hi j (x + 1) N (by omega)
    rw [show N + (j + 1) = N + j + 1 by omega, fX6_cut_L, if_neg (by decide), if_neg (by decide), if_neg (by decide), if_neg (by decide), if_pos rfl, nI_add, at_is h (by omega), qcall_s, isDigM, qcall_s, rcD h, hq, if_neg b2t]
    simp only [qlet_e, nI_1]
    by_cases q : x < 4
    · rw [if_neg (show ¬ (4 : Int32) ≤ nI x from nI_ge (b := 4) q (by omega)), at_is h (by omega), qcall_s, hr, show min x 4 = x by omega]
      rw [show min (x + 1) 4 = x + 1 by omega, digS, Int32.mul_comm] at ih
      rw [show x + (j + 1) = x + 1 + j by omega]
      exact ih
    · rw [if_pos (show (4 : Int32) ≤ nI x from nI_le (a := 4) (by omega) (by omega)), show min x 4 = 4 by omega]
      rw [show min (x + 1) 4 = 4 by omega] at ih
      rw [show x + (j + 1) = x + 1 + j by omega]
      exact ih
theorem cut_int {μ : St} {f : Nat → Int32} {n i k N : Nat} (h : HT μ f n) (hk : μ.1 0 10 = nI k) (hk4 : k ≤ 400) (hi : i < n) (hN2 : upQ isD f n i - i + 2 ≤ N) : ∃ v6 v, fX6_cut_L N 4 (nI i) 0 0 0 0 0 μ = fX6_cut_L (N - (upQ isD f n i - i) - 2) 0 (nI (upQ isD f n i)) 0 0 0 0 0 (tokS μ k v6 (nI i) v 0) ∧ KR (if upQ isD f n i - i ≤ 4 then 14 else 26) v6 ∧ (upQ isD f n i - i ≤ 4 → v = digS f i (upQ isD f n i - i)) := by
  have hn := h.2.1
  have u := upQ_is (p := isD) (f := f) (show i ≤ n by omega)
  generalize hj : upQ isD f n i = J at u hN2
  obtain ⟨M, rfl⟩ : ∃ M, N = M + 2 + (J - i) := ⟨N - 2 - (J - i), by omega⟩
  have c1 := cut_4 h (show i ≤ n by omega) (J - i) 0 (M + 2) (by rw [hj]; omega)
  rw [Nat.zero_add] at c1
  have c1' : fX6_cut_L (M + 2 + (J - i)) 4 (nI i) 0 0 0 0 0 μ = _ := c1
  rw [c1', show M + 2 = M + 1 + 1 by omega, fX6_cut_L, if_neg (by decide), if_neg (by decide), if_neg (by decide), if_neg (by decide), if_pos rfl, nI_add, show i + (J - i) = J by omega, at_is h (by omega), qcall_s, isDigM, qcall_s, rcD h, u.2.2.2, if_pos b2f, show M + 1 + 1 + (J - i) - (J - i) - 2 = M by omega]
  simp only [qlet_e]
  by_cases q : J - i ≤ 4
  · rw [if_pos (show nI (J - i) ≤ 4 from nI_le (b := 4) q (by omega)), tok_is hk (by omega), qcall_s, cut_5, if_pos q]
    exact ⟨2, _, rfl, Or.inl ⟨by decide, rfl⟩, fun _ => by rw [show min (J - i) 4 = J - i by omega]⟩
  · rw [if_neg (show ¬ nI (J - i) ≤ 4 from nI_ge (a := 4) (by omega) (by omega)), tok_is hk (by omega), qcall_s, cut_5, if_neg q]
    exact ⟨3, _, rfl, Or.inr ⟨rfl, Or.inr rfl⟩, fun z => absurd z q⟩
