-- ===== the reference's codes and signs =====
def wR (x : Nat) : Int32 := nI (rkT.getD x 0)
def PX (μ : St) (p c : Nat) (De : List Op) (wa : List Nat) : Prop := μ.1 0 12 = nI (depW wa) ∧ μ.1 0 34 = nI wa.length ∧ HasS (μ.1 21) (wa.map wR) ∧ μ.1 0 30 = nI (500 * p + (c + De.length)) ∧ HasM (μ.1 19) (μ.1 20) (500 * p + c) De ∧ c + De.length + wa.length ≤ 401 ∧ p < 12 ∧ okW wa ∧ depW wa ≤ 6
theorem PX.s0 {μ : St} {p c : Nat} {De : List Op} {wa : List Nat} {k : Nat} {v : Int32} (h : PX μ p c De wa) (hk : k ≠ 12 ∧ k ≠ 34 ∧ k ≠ 30) : PX (sI μ 0 k v) p c De wa := by
  obtain ⟨h1, h2, h3, h4, h5, h6, h7, h8, h9⟩ := h
  exact ⟨by rw [sI_s, upd_n _ _ (by omega)]; exact h1, by rw [sI_s, upd_n _ _ (by omega)]; exact h2, by rw [sI_n _ _ _ _ (by omega)]; exact h3, by rw [sI_s, upd_n _ _ (by omega)]; exact h4, by rw [sI_n _ _ _ _ (by omega), sI_n _ _ _ _ (by omega)]; exact h5, h6, h7, h8, h9⟩
theorem PX.fail {μ : St} {p c : Nat} {De : List Op} {wa : List Nat} {k : Nat} {v : Int32} (h : PX μ p c De wa) : PX (failS μ k v) p c De wa := (h.s0 (by omega)).s0 (by omega)
/-- a code is put out -/
theorem emitM {μ : St} {p c : Nat} {De : List Op} {wa wa' : List Nat} (o : Op) {a b : Int32} (h : PX μ p c De wa) (ha : a = mK o) (hb : b = mV o) (hl : c + De.length ≤ 401) : ∃ μ', fX6_emit μ a b = some (0, μ') ∧ μ'.1 0 12 = μ.1 0 12 ∧ μ'.1 0 34 = μ.1 0 34 ∧ μ'.1 21 = μ.1 21 ∧ μ'.1 0 30 = nI (500 * p + (c + (De ++ [o]).length)) ∧ HasM (μ'.1 19) (μ'.1 20) (500 * p + c) (De ++ [o]) ∧ XM p c μ μ' ∧ (∀ i, i ≠ 30 → μ'.1 0 i = μ.1 0 i) := by
  obtain ⟨h1, h2, h3, h4, h5, h6, h7, h8, h9⟩ := h
  subst ha hb
  have e1 : (sI μ 19 (500 * p + (c + De.length)) (mK o)).1 0 = μ.1 0 := sI_n _ _ _ _ (by omega)
  have e2 : (sI (sI μ 19 (500 * p + (c + De.length)) (mK o)) 20 (500 * p + (c + De.length)) (mV o)).1 0 = μ.1 0 := by rw [sI_n _ _ _ _ (by omega)]; exact e1
  generalize hω : sI (sI (sI μ 19 (500 * p + (c + De.length)) (mK o)) 20 (500 * p + (c + De.length)) (mV o)) 0 30 (nI (500 * p + (c + De.length) + 1)) = ω
  have f0 : ∀ i, i ≠ 30 → ω.1 0 i = μ.1 0 i := fun i hi => by rw [← hω, sI_s, upd_n _ _ hi, e2]
  have f30 : ω.1 0 30 = nI (500 * p + (c + De.length) + 1) := by rw [← hω, sI_s, upd_s]
  have f19 : ω.1 19 = upd (μ.1 19) (500 * p + (c + De.length)) (mK o) := by rw [← hω, sI_n _ _ _ _ (by omega), sI_n _ _ _ _ (by omega), sI_s]
  have f20 : ω.1 20 = upd (μ.1 20) (500 * p + (c + De.length)) (mV o) := by rw [← hω, sI_n _ _ _ _ (by omega), sI_s, sI_n _ _ _ _ (by omega)]
  have f21 : ω.1 21 = μ.1 21 := by rw [← hω, sI_n _ _ _ _ (by omega), sI_n _ _ _ _ (by omega), sI_n _ _ _ _ (by omega)]
  refine ⟨ω, ?_, f0 12 (by omega), f0 34 (by omega), f21, ?_, ?_, ?_, f0⟩
  · unfold fX6_emit
    rw [h4, qix_nI (by omega) (by omega), nI_clamp (by omega), qlet_e, e1, h4, qix_nI (by omega) (by omega), nI_clamp (by omega), qlet_e, e2, h4, nI_1, hω, qlet_e]
  · rw [f30, List.length_append, List.length_singleton, Nat.add_assoc, Nat.add_assoc]
  · rw [HasM_app, f19, f20]
    refine ⟨HasM_congr h5 (fun i q1 q2 => ⟨upd_n _ _ (by omega), upd_n _ _ (by omega)⟩), ⟨?_, ?_⟩, trivial⟩
    · rw [show 500 * p + c + De.length = 500 * p + (c + De.length) by omega, upd_s]
    · rw [show 500 * p + c + De.length = 500 * p + (c + De.length) by omega, upd_s]
  · rw [← hω]
    exact ((XM.s19 p c μ (i := 19) (mK o) (by omega) (by omega) (by omega)).trans (XM.s19 p c _ (i := 20) (mV o) (by omega) (by omega) (by omega))).trans (XM.s0 p c _ (k := 30) _ (by omega))
theorem out_run {p c b : Nat} {a1 : Int32} (hb : (b = 4 ∧ a1 = 0) ∨ (b = 5 ∧ a1 = 1)) : ∀ (wa : List Nat) (De : List Op) (N : Nat) (μ : St), PX μ p c De wa → wa.length < N → ∃ μ', fX6_comesOut_L a1 N μ = some (0, μ') ∧ PX μ' p c (De ++ (popB b wa).1.map Op.bin) (popB b wa).2 ∧ XM p c μ μ' ∧ ∀ i, i ≠ 30 → i ≠ 34 → μ'.1 0 i = μ.1 0 i
  | [], De, N + 1, μ, P, _ => by
    refine ⟨μ, ?_, ?_, XM.rf p c μ, fun _ _ _ => rfl⟩
    · rw [fX6_comesOut_L, qlet_e, P.2.1, if_pos (by decide)]
    · show PX μ p c (De ++ []) []
      rw [List.append_nil]
      exact P
  | x :: r, De, N + 1, μ, P, hN => by
    obtain ⟨h1, h2, h3, h4, h5, h6, h7, h8, h9⟩ := id P
    have l20 := okW_20 h8 h9
    rw [List.length_cons] at h2 h6 l20 hN
    have ex : μ.1 21 r.length = wR x := by
      have := h3.1
      rw [List.length_map] at this
      exact this
    have go : bondN x ≠ 0 → ∀ y : Int32, y = mK (Op.bin x) → ∃ μ', (qlet (sI μ 0 34 (nI r.length)) (fun σ50 => qcall (fX6_emit σ50 y (0 : Int32)) (fun _ σ86 => fX6_comesOut_L a1 N σ86))) = some (0, μ') ∧ PX μ' p c (De ++ (x :: (popB b r).1).map Op.bin) (popB b r).2 ∧ XM p c μ μ' ∧ ∀ i, i ≠ 30 → i ≠ 34 → μ'.1 0 i = μ.1 0 i := fun hx0 y hy => by
      have hd : depW r = depW (x :: r) := by
        rw [depW, if_neg (by rintro rfl; exact hx0 rfl)]
        omega
      have P1 : PX (sI μ 0 34 (nI r.length)) p c De r := ⟨by rw [sI_s, upd_n _ _ (by omega), hd]; exact h1, by rw [sI_s, upd_s], by rw [sI_n _ _ _ _ (by omega)]; exact h3.2, by rw [sI_s, upd_n _ _ (by omega)]; exact h4, by rw [sI_n _ _ _ _ (by omega), sI_n _ _ _ _ (by omega)]; exact h5, by omega, h7, h8.2.2, by omega⟩
      obtain ⟨μ1, a1', a2, a3, a4, a5, a6, a7, a8⟩ := emitM (wa' := r) (Op.bin x) P1 hy rfl (by omega)
      have P2 : PX μ1 p c (De ++ [Op.bin x]) r := by
        obtain ⟨g1, g2, g3, g4, g5, g6, g7, g8, g9⟩ := P1
        exact ⟨a2.trans g1, a3.trans g2, by rw [a4]; exact g3, a5, a6, by rw [List.length_append, List.length_singleton]; omega, g7, g8, g9⟩
      obtain ⟨μ', c1, c2, c3, c4⟩ := out_run hb r (De ++ [Op.bin x]) N μ1 P2 (by omega)
      have a1'' : fX6_emit (sI μ 0 34 (nI r.length)) y 0 = some (0, μ1) := a1'
      refine ⟨μ', by rw [qlet_e, a1'', qcall_s, c1], ?_, ((XM.s0 p c μ (k := 34) _ (by omega)).trans a7).trans c3, fun i hi hi2 => ?_⟩
      · rw [List.append_assoc] at c2
        exact c2
      · rw [c4 i hi hi2, a8 i hi, sI_s, upd_n _ _ hi2]
    have e34 : (sI μ 0 34 (nI r.length)).1 0 34 = nI r.length := by rw [sI_s, upd_s]
    have e21 : (sI μ 0 34 (nI r.length)).1 21 r.length = wR x := by rw [sI_n _ _ _ _ (by omega)]; exact ex
    rw [fX6_comesOut_L, qlet_e, h2, if_neg (nI_nle (by omega) (by omega)), nI_m1, qix_nI (by omega) (by omega), nI_clamp (by omega), ex, popB]
    simp only [qlet_e, e34, qix_nI (show r.length < 48 by omega) (show 48 ≤ 2 ^ 31 by omega), nI_clamp (show r.length < 2 ^ 31 by omega), e21]
    rcases h8.1 with rfl | rfl | rfl | rfl
    · rw [if_neg (show ¬ wR 16 = 6 by decide)]
      rcases hb with ⟨rfl, rfl⟩ | ⟨rfl, rfl⟩
      · rw [if_pos rfl, if_pos (show wR 16 = 8 from rfl), if_pos (show 4 ≤ bondN 16 by decide)]
        have := go (by decide) 2 rfl
        rw [qlet_e] at this
        exact this
      · rw [if10, if_neg (show ¬ wR 16 = 10 by decide), if_neg (show ¬ 5 ≤ bondN 16 by decide)]
        refine ⟨μ, rfl, ?_, XM.rf p c μ, fun _ _ _ => rfl⟩
        show PX μ p c (De ++ []) (16 :: r)
        rw [List.append_nil]
        exact P
    · rw [if_neg (show ¬ wR 17 = 6 by decide)]
      rcases hb with ⟨rfl, rfl⟩ | ⟨rfl, rfl⟩
      · rw [if_pos rfl, if_neg (show ¬ wR 17 = 8 by decide), if_pos (show wR 17 = 9 from rfl), if_pos (show 4 ≤ bondN 17 by decide)]
        have := go (by decide) 3 rfl
        rw [qlet_e] at this
        exact this
      · rw [if10, if_neg (show ¬ wR 17 = 10 by decide), if_neg (show ¬ 5 ≤ bondN 17 by decide)]
        refine ⟨μ, rfl, ?_, XM.rf p c μ, fun _ _ _ => rfl⟩
        show PX μ p c (De ++ []) (17 :: r)
        rw [List.append_nil]
        exact P
    · rw [if_neg (show ¬ wR 18 = 6 by decide)]
      have := go (by decide) 4 rfl
      rw [qlet_e] at this
      rcases hb with ⟨rfl, rfl⟩ | ⟨rfl, rfl⟩
      · rw [if_pos rfl, if_neg (show ¬ wR 18 = 8 by decide), if_neg (show ¬ wR 18 = 9 by decide), if_pos (show 4 ≤ bondN 18 by decide)]
        exact this
      · rw [if10, if_pos (show wR 18 = 10 from rfl), if_neg (show ¬ wR 18 = 8 by decide), if_neg (show ¬ wR 18 = 9 by decide), if_pos (show 5 ≤ bondN 18 by decide)]
        exact this
    · rw [if_pos (show wR 23 = 6 from rfl), if_neg (by rcases hb with ⟨rfl, -⟩ | ⟨rfl, -⟩ <;> decide)]
      refine ⟨μ, rfl, ?_, XM.rf p c μ, fun _ _ _ => rfl⟩
      show PX μ p c (De ++ []) (23 :: r)
      rw [List.append_nil]
      exact P
theorem out_is {p c b : Nat} {a1 : Int32} (hb : (b = 4 ∧ a1 = 0) ∨ (b = 5 ∧ a1 = 1)) {wa : List Nat} {De : List Op} {μ : St} (P : PX μ p c De wa) : ∃ μ', fX6_comesOut μ a1 = some (0, μ') ∧ PX μ' p c (De ++ (popB b wa).1.map Op.bin) (popB b wa).2 ∧ XM p c μ μ' ∧ ∀ i, i ≠ 30 → i ≠ 34 → μ'.1 0 i = μ.1 0 i := by
  have l20 := okW_20 P.2.2.2.2.2.2.2.1 P.2.2.2.2.2.2.2.2
  unfold fX6_comesOut
  exact out_run hb wa De 100000 μ P (by omega)
theorem FM.keep {μ μ' : St} {e pl : Nat} (h : FM μ e pl) (k : ∀ i, i ≠ 30 → i ≠ 34 → μ'.1 0 i = μ.1 0 i) : FM μ' e pl := ⟨by rw [k 13 (by omega) (by omega)]; exact h.1, h.2.1, by rw [k 14 (by omega) (by omega)]; exact h.2.2.1, by rw [k 11 (by omega) (by omega)]; exact h.2.2.2⟩
/-- behind a fault an expression ends -/
theorem ex0_dead {μ : St} {e pl N : Nat} {v1 v2 : Int32} (h : FM μ e pl) : fX6_expression_L (N + 1) 0 v1 v2 μ = some (0, μ) := by
  rw [fX6_expression_L, if_pos rfl, qlet_e]
  by_cases q : v2 = 0
  · rw [if_pos q]
  · rw [if_neg q, if_neg h.ne.1]
theorem ex1_dead {μ : St} {p c e pl N : Nat} {v1 v2 : Int32} {De : List Op} {wa : List Nat} (h : FM μ e pl) (P : PX μ p c De wa) : ∃ μ', fX6_expression_L (N + 1) 1 v1 v2 μ = some (0, μ') ∧ FM μ' e pl ∧ XM p c μ μ' := by
  obtain ⟨μ', a1, a2, a3, a4⟩ := out_is (b := 4) (Or.inl ⟨rfl, rfl⟩) P
  refine ⟨μ', ?_, h.keep a4, a3⟩
  rw [fX6_expression_L, if_neg (by decide)]
  simp only [is_no h.ne.1, qcall_s, qlet_e, if_true, fail_no h, a1]
  split <;> rfl
