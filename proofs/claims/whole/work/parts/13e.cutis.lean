-- ===== the reference cuts: signs, and all =====
theorem sgl {α : Type} (x : Int32) (F : Int32 → α) : ∃ kd, (if x = (59 : Int32) then F 4 else (if x = (40 : Int32) then F 6 else (if x = (41 : Int32) then F 7 else (if x = (43 : Int32) then F 8 else (if x = (45 : Int32) then F 9 else (if x = (42 : Int32) then F 10 else (if x = (60 : Int32) then F 13 else F 3))))))) = F kd ∧ KR (signK x) kd := by
  by_cases h1 : x = 59
  · subst h1
    exact ⟨4, rfl, Or.inl ⟨by decide, rfl⟩⟩
  by_cases h2 : x = 40
  · subst h2
    exact ⟨6, rfl, Or.inl ⟨by decide, rfl⟩⟩
  by_cases h3 : x = 41
  · subst h3
    exact ⟨7, rfl, Or.inl ⟨by decide, rfl⟩⟩
  by_cases h4 : x = 43
  · subst h4
    exact ⟨8, rfl, Or.inl ⟨by decide, rfl⟩⟩
  by_cases h5 : x = 45
  · subst h5
    exact ⟨9, rfl, Or.inl ⟨by decide, rfl⟩⟩
  by_cases h6 : x = 42
  · subst h6
    exact ⟨10, rfl, Or.inl ⟨by decide, rfl⟩⟩
  by_cases h7 : x = 60
  · subst h7
    exact ⟨13, rfl, Or.inl ⟨by decide, rfl⟩⟩
  refine ⟨3, by rw [if_neg h1, if_neg h2, if_neg h3, if_neg h4, if_neg h5, if_neg h6, if_neg h7], Or.inr ⟨?_, Or.inr rfl⟩⟩
  unfold signK
  rw [if_neg h2, if_neg h3, if_neg h6, if_neg h4, if_neg h5, if_neg h1, if_neg h7]
theorem sign_is {μ : St} {f : Nat → Int32} {n i k : Nat} (h : HT μ f n) (hi : i < n) (hk : μ.1 0 10 = nI k) (hk4 : k ≤ 400) : ∃ kd, fX6_sign μ (nI i) (rcS f n i) (rcS f n (i + 1)) = some (nI (if twoQ f n i = true then 2 else 1), tokS μ k kd (nI i) 0 0) ∧ KR (if twoQ f n i = true then pairK (f i) else signK (f i)) kd := by
  have hn := h.2.1
  have ea : (rcS f n (i + 1) = 61) = (i + 1 < n ∧ f (i + 1) = 61) := by
    by_cases q : i + 1 < n
    · rw [rc_eq h q (by decide)]
      exact propext ⟨fun z => ⟨q, z⟩, fun z => z.2⟩
    · unfold rcS
      rw [if_neg q]
      exact propext ⟨fun z => absurd z (by decide), fun z => absurd z.1 q⟩
  have er : ∀ c : Int32, (0 ≤ c.toInt ∧ c.toInt < 128) → (rcS f n i = c) = (f i = c) := fun c hc => rc_eq h hi hc
  unfold fX6_sign
  simp only [qlet_e, ea, er 61 (by decide), er 33 (by decide), er 60 (by decide), er 59 (by decide), er 40 (by decide), er 41 (by decide), er 43 (by decide), er 45 (by decide), er 42 (by decide), tok_is hk (show k < 403 by omega), qcall_s]
  have single : twoQ f n i = false → ∃ kd, (if f i = (59 : Int32) then (if (0 : Int32) ≤ 0 then some ((1 : Int32), tokS μ k 4 (nI i) 0 0) else some (2, tokS μ k 4 (nI i) 0 0)) else if f i = (40 : Int32) then (if (0 : Int32) ≤ 0 then some ((1 : Int32), tokS μ k 6 (nI i) 0 0) else some (2, tokS μ k 6 (nI i) 0 0)) else if f i = (41 : Int32) then (if (0 : Int32) ≤ 0 then some ((1 : Int32), tokS μ k 7 (nI i) 0 0) else some (2, tokS μ k 7 (nI i) 0 0)) else if f i = (43 : Int32) then (if (0 : Int32) ≤ 0 then some ((1 : Int32), tokS μ k 8 (nI i) 0 0) else some (2, tokS μ k 8 (nI i) 0 0)) else if f i = (45 : Int32) then (if (0 : Int32) ≤ 0 then some ((1 : Int32), tokS μ k 9 (nI i) 0 0) else some (2, tokS μ k 9 (nI i) 0 0)) else if f i = (42 : Int32) then (if (0 : Int32) ≤ 0 then some ((1 : Int32), tokS μ k 10 (nI i) 0 0) else some (2, tokS μ k 10 (nI i) 0 0)) else if f i = (60 : Int32) then (if (0 : Int32) ≤ 0 then some ((1 : Int32), tokS μ k 13 (nI i) 0 0) else some (2, tokS μ k 13 (nI i) 0 0)) else (if (0 : Int32) ≤ 0 then some ((1 : Int32), tokS μ k 3 (nI i) 0 0) else some (2, tokS μ k 3 (nI i) 0 0))) = some (nI (if twoQ f n i = true then 2 else 1), tokS μ k kd (nI i) 0 0) ∧ KR (if twoQ f n i = true then pairK (f i) else signK (f i)) kd := fun tq => by
    rw [tq]
    obtain ⟨kd, a1, a2⟩ := sgl (f i) (fun kd => if (0 : Int32) ≤ 0 then some ((1 : Int32), tokS μ k kd (nI i) 0 0) else some (2, tokS μ k kd (nI i) 0 0))
    exact ⟨kd, a1.trans (if_pos (by decide)), a2⟩
  by_cases q : i + 1 < n ∧ f (i + 1) = 61
  · rw [if_pos q]
    have tw : ∀ p, pairK (f i) = p → p ≠ 26 → twoQ f n i = true := fun p hp h26 => by
      unfold twoQ
      rw [decide_eq_true q.1, decide_eq_true q.2, hp, decide_eq_false h26]
      rfl
    by_cases h1 : f i = 61
    · have e : pairK (f i) = 19 := by rw [h1]; rfl
      rw [if_pos h1, tw 19 e (by decide), e, if_pos rfl, if_pos rfl, if_neg (show ¬ (11 : Int32) ≤ 0 by decide), if_neg (show ¬ (11 : Int32) ≤ 0 by decide)]
      exact ⟨11, rfl, Or.inl ⟨by decide, rfl⟩⟩
    · rw [if_neg h1]
      by_cases h2 : f i = 33
      · have e : pairK (f i) = 20 := by rw [h2]; rfl
        rw [if_pos h2, tw 20 e (by decide), e, if_pos rfl, if_pos rfl, if_neg (show ¬ (12 : Int32) ≤ 0 by decide), if_neg (show ¬ (12 : Int32) ≤ 0 by decide)]
        exact ⟨12, rfl, Or.inl ⟨by decide, rfl⟩⟩
      · rw [if_neg h2]
        by_cases h3 : f i = 60
        · have e : pairK (f i) = 22 := by rw [h3]; rfl
          rw [if_pos h3, tw 22 e (by decide), e, if_pos rfl, if_pos rfl, if_neg (show ¬ (14 : Int32) ≤ 0 by decide), if_neg (show ¬ (14 : Int32) ≤ 0 by decide)]
          exact ⟨14, rfl, Or.inl ⟨by decide, rfl⟩⟩
        · rw [if_neg h3, if_pos (show (0 : Int32) ≤ 0 by decide)]
          refine single ?_
          unfold twoQ pairK
          rw [if_neg h2, if_neg h3, if_neg h1]
          simp
  · rw [if_neg q, if_pos (show (0 : Int32) ≤ 0 by decide)]
    refine single ?_
    unfold twoQ
    cases q1 : decide (i + 1 < n)
    · rfl
    · rw [decide_eq_true_eq] at q1
      rw [decide_eq_false (fun z => q ⟨q1, z⟩)]
      rfl
def CutR (f : Nat → Int32) (n N i : Nat) (μ : St) : Prop := ∃ μ', fX6_cut_L N 0 (nI i) 0 0 0 0 0 μ = some (0, μ') ∧ CutK μ μ' ∧ ∀ j, j ≤ 400 → (∀ j', j' < j → tkK f n j' ≠ 25) → TokM f n μ' j
theorem cut_stop {f : Nat → Int32} {n i k N : Nat} {μ : St} (hi : i ≤ n) (h : HT μ f n) (hS : upQ isB f n i = tkS f n k) (hk4 : k ≤ 401) (hk : μ.1 0 10 = nI k) (hT : ∀ j, j < k → TokM f n μ j) (hs : i = n ∨ k = 401) : CutR f n (N + 1) i μ := by
  by_cases q : k = 401
  · subst q
    exact ⟨μ, cut_full hk, CutK.rf μ, fun j hj _ => hT j (by omega)⟩
  · have e : i = n := by omega
    subst e
    have tS : tkS f i k = i := by rw [← hS]; exact upQ_no (atQ_out (Nat.le_refl _))
    have tK : tkK f i k = 25 := ((tk_is f i k).2.2.2.2.2).mpr tS
    refine ⟨_, by rw [cut_head h hk (by omega) (Nat.le_refl _), if_neg (by omega)], (tok_k μ k _ _ _ _).1, fun j hj hno => ?_⟩
    by_cases e1 : j < k
    · exact (hT j e1).tok e1
    · by_cases e2 : j = k
      · rw [e2]
        exact TokM.new (by rw [tK]; exact Or.inl ⟨by decide, rfl⟩) (by rw [tS]) (fun z => by rw [tK] at z; exact absurd z (by decide))
      · exact absurd tK (hno k (by omega))
theorem cut_run {f : Nat → Int32} {n : Nat} : ∀ (d i k N : Nat) (μ : St), n - i ≤ d → i ≤ n → HT μ f n → Keys μ → upQ isB f n i = tkS f n k → k ≤ 401 → μ.1 0 10 = nI k → (∀ j, j < k → TokM f n μ j) → 20 * (n - i) + 2 ≤ N → CutR f n N i μ
  | 0, i, k, N, μ, hd, hi, h, K, hS, hk4, hk, hT, hN => by
    obtain ⟨M, rfl⟩ : ∃ M, N = M + 1 := ⟨N - 1, by omega⟩
    exact cut_stop hi h hS hk4 hk hT (Or.inl (by omega))
  | d + 1, i, k, N, μ, hd, hi, h, K, hS, hk4, hk, hT, hN => by
    obtain ⟨M, rfl⟩ : ∃ M, N = M + 1 := ⟨N - 1, by omega⟩
    by_cases q0 : i = n ∨ k = 401
    · exact cut_stop hi h hS hk4 hk hT q0
    · have hlt : i < n := by omega
      have hk5 : k ≤ 400 := by omega
      have hn := h.2.1
      have e := cut_head (N := M) (a := 0) (b := 0) (c := 0) (d := 0) (w := 0) h hk hk5 hi
      rw [if_pos hlt] at e
      cases q1 : atQ isB f n i
      · rw [q1, if_neg (by decide)] at e
        have tS : tkS f n k = i := by rw [← hS]; exact upQ_no q1
        have tP : tkP f n (k + 1) = (lexK f n i).2 := by
          rw [← tS]
          rfl
        have tK : tkK f n k = (lexK f n i).1 := by
          unfold tkK
          rw [tS]
        have tV : tkV f n k = digS f i ((lexK f n i).2 - i) := by
          unfold tkV
          rw [tP, tS]
        -- a token, and on
        have go : ∀ (N' : Nat) (kd v : Int32) (w : Int64), fX6_cut_L (M + 1) 0 (nI i) 0 0 0 0 0 μ = fX6_cut_L N' 0 (nI (lexK f n i).2) 0 0 0 0 0 (tokS μ k kd (nI i) v w) → KR (lexK f n i).1 kd → ((lexK f n i).1 = 14 → v = digS f i ((lexK f n i).2 - i)) → M + 1 ≤ N' + 20 * ((lexK f n i).2 - i) → CutR f n (M + 1) i μ := fun N' kd v w g1 g2 g3 g4 => by
          have lx := lexK_is (f := f) hi
          have lx3 := lx.2.2.1 hlt
          obtain ⟨t1, t2, -⟩ := tok_k μ k kd (nI i) v w
          obtain ⟨μ', r1, r2, r3⟩ := cut_run d (lexK f n i).2 (k + 1) N' (tokS μ k kd (nI i) v w) (by omega) lx.2.1 (t1.ht h) (t1.keys K) (by rw [← tP]; rfl) (by omega) t2 (fun j hj => by
            by_cases ej : j = k
            · rw [ej]
              exact TokM.new (by rw [tK]; exact g2) (by rw [tS]) (fun z => by rw [tK] at z; rw [tV]; exact g3 z)
            · exact (hT j (by omega)).tok (by omega)) (by omega)
          exact ⟨μ', g1.trans r1, t1.trans r2, r3⟩
        have lx : lexK f n i = if isL (f i) = true then (fstK (isW f i (upQ isL f n i)) 14 0, upQ isL f n i) else if isD (f i) = true then (if upQ isD f n i - i ≤ 4 then 14 else 26, upQ isD f n i) else if twoQ f n i = true then (pairK (f i), i + 2) else (signK (f i), i + 1) := by
          unfold lexK
          rw [if_neg (by omega)]
        have aL : atQ isL f n i = isL (f i) := by unfold atQ; rw [decide_eq_true hlt, Bool.true_and]
        have aD : atQ isD f n i = isD (f i) := by unfold atQ; rw [decide_eq_true hlt, Bool.true_and]
        rw [aL, aD] at e
        cases q2 : isL (f i)
        · rw [q2, if_neg (by decide)] at e lx
          cases q3 : isD (f i)
          · rw [q3, if_neg (by decide)] at e lx
            obtain ⟨kd, s1, s2⟩ := sign_is h hlt hk hk5
            rw [s1, qcall_s, nI_add] at e
            obtain ⟨M', rfl⟩ : ∃ M', M = M' + 1 := ⟨M - 1, by omega⟩
            rw [cut_5] at e
            cases q4 : twoQ f n i
            · rw [q4, if_neg (by decide)] at e lx s2
              exact go M' kd 0 0 (by rw [e, lx]) (by rw [lx]; exact s2) (fun z => by
                exfalso
                rw [lx] at z
                have z : signK (f i) = 14 := z
                unfold signK at z
                revert z
                repeat' split
                all_goals decide) (by rw [lx]; show _ ≤ M' + 20 * (i + 1 - i); omega)
            · rw [q4, if_pos rfl] at e lx s2
              exact go M' kd 0 0 (by rw [e, lx]) (by rw [lx]; exact s2) (fun z => by
                exfalso
                rw [lx] at z
                have z : pairK (f i) = 14 := z
                unfold pairK at z
                revert z
                repeat' split
                all_goals decide) (by rw [lx]; show _ ≤ M' + 20 * (i + 2 - i); omega)
          · rw [q3, if_pos rfl] at e lx
            have u := upQ_is (p := isD) (f := f) (show i + 1 ≤ n by omega)
            rw [← upQ_go (aD.trans q3)] at u
            obtain ⟨kd, v, s1, s2, s3⟩ := cut_int (N := M) h hk hk5 hlt (by omega)
            exact go _ kd v 0 (by rw [e, s1, lx]) (by rw [lx]; exact s2) (fun z => by
              rw [lx] at z ⊢
              have z : (if upQ isD f n i - i ≤ 4 then 14 else 26) = 14 := z
              exact s3 (by
                by_cases q5 : upQ isD f n i - i ≤ 4
                · exact q5
                · rw [if_neg q5] at z
                  exact absurd z (by decide))) (by rw [lx]; show _ ≤ _ + 20 * (upQ isD f n i - i); omega)
        · rw [q2, if_pos rfl] at e lx
          have u := upQ_is (p := isL) (f := f) (show i + 1 ≤ n by omega)
          rw [← upQ_go (aL.trans q2)] at u
          obtain ⟨N', kd, w, s1, s2, s3⟩ := cut_word (N := M) h K hk hk5 hlt q2 (by omega)
          exact go N' kd 0 w (by rw [e, s1, lx]) (by rw [lx]; exact s3) (fun z => by
            exfalso
            rw [lx] at z
            have z : fstK (isW f i (upQ isL f n i)) 14 0 = 14 := z
            have := fstK_rng (P := isW f i (upQ isL f n i)) (j := 14) (k := 0) rfl
            omega) (by rw [lx]; show _ ≤ N' + 20 * (upQ isL f n i - i); omega)
      · rw [q1, if_pos rfl] at e
        obtain ⟨M', rfl⟩ : ∃ M', M = M' + 1 := ⟨M - 1, by omega⟩
        rw [cut_5] at e
        obtain ⟨μ', r1, r2, r3⟩ := cut_run d (i + 1) k M' μ (by omega) (by omega) h K (by rw [← upQ_go q1]; exact hS) hk4 hk hT (by omega)
        exact ⟨μ', e.trans r1, r2, r3⟩
theorem cut_is {f : Nat → Int32} {n : Nat} {μ : St} (h : HT μ f n) (K : Keys μ) : ∃ μ', fX6_cut μ = some (0, μ') ∧ CutK μ μ' ∧ ∀ j, j ≤ 400 → (∀ j', j' < j → tkK f n j' ≠ 25) → TokM f n μ' j := by
  have hn := h.2.1
  have k : CutK μ (sI μ 0 10 0) := ⟨fun i h1 _ _ _ => sI_n _ _ _ _ h1, fun i hi => by rw [sI_s, upd_n _ _ hi], fun _ _ => rfl, rfl⟩
  unfold fX6_cut
  rw [qlet_e]
  obtain ⟨μ', r1, r2, r3⟩ := cut_run (f := f) (n := n) n 0 0 100000 (sI μ 0 10 0) (by omega) (by omega) (k.ht h) (k.keys K) rfl (by omega) (by rw [sI_s, upd_s]; rfl) (fun j hj => absurd hj (by omega)) (by omega)
  exact ⟨μ', r1, k.trans r2, r3⟩
