-- ===== the reference's hands: tokens, faults, codes, signs that wait =====
theorem rk_inj : ∀ a, a < 26 → ∀ b, b < 26 → rkT.getD a 0 = rkT.getD b 0 → a = b := by decide +kernel
theorem rk_lt : ∀ a, a < 26 → rkT.getD a 0 < 40 ∧ rkT.getD a 0 ≠ 1 ∧ rkT.getD a 0 ≠ 3 := by decide +kernel
theorem KR_iff {c : Nat} {y : Int32} (h : KR c y) {c' : Nat} (hc : c' ≤ 25) : (y = nI (rkT.getD c' 0)) = (c = c') := by
  have r' := rk_lt c' (by omega)
  apply propext
  rcases h with ⟨h1, rfl⟩ | ⟨rfl, h1⟩
  · have r := rk_lt c (by omega)
    rw [nI_eq (by omega) (by omega)]
    exact ⟨fun q => rk_inj c (by omega) c' (by omega) q, fun q => by rw [q]⟩
  · constructor
    · intro q
      exfalso
      rcases h1 with h1 | h1
      · have : nI 1 = nI (rkT.getD c' 0) := by rw [← q, h1]; rfl
        rw [nI_eq (by omega) (by omega)] at this
        omega
      · have : nI 3 = nI (rkT.getD c' 0) := by rw [← q, h1]; rfl
        rw [nI_eq (by omega) (by omega)] at this
        omega
    · intro q
      omega
def TKs (f : Nat → Int32) (n : Nat) (μ : St) : Prop := ∀ j, j ≤ 400 → (∀ j', j' < j → tkK f n j' ≠ 25) → TokM f n μ j
def NoE (f : Nat → Int32) (n k : Nat) : Prop := ∀ j, j < k → tkK f n j ≠ 25
theorem is_is {μ : St} {f : Nat → Int32} {n k c : Nat} {a : Int32} (hf : μ.1 0 13 = 0) (ht : μ.1 0 11 = nI k) (hk : k ≤ 400) (T : TokM f n μ k) (hc : c ≤ 25) (ha : a = nI (rkT.getD c 0)) : fX6_is μ a = some (b2 (decide (tkK f n k = c)), μ) := by
  subst ha
  unfold fX6_is
  rw [qlet_e, qlet_e, hf, if_pos rfl, ht, qix_nI (by omega) (by omega), nI_clamp (by omega)]
  by_cases q : tkK f n k = c
  · rw [if_pos ((KR_iff T.1 hc).mpr q), decide_eq_true q]
    rfl
  · rw [if_neg (fun h => q ((KR_iff T.1 hc).mp h)), decide_eq_false q]
    rfl
theorem is_no {μ : St} {a : Int32} (hf : ¬ μ.1 0 13 = 0) : fX6_is μ a = some (0, μ) := by
  unfold fX6_is
  rw [qlet_e, qlet_e, if_neg hf]
  rfl
def failS (μ : St) (k : Nat) (c : Int32) : St := sI (sI μ 0 13 c) 0 14 (μ.1 4 k)
theorem fail_is {μ : St} {k : Nat} {c : Int32} (hf : μ.1 0 13 = 0) (ht : μ.1 0 11 = nI k) (hk : k ≤ 400) : fX6_fail μ c = some (0, failS μ k c) := by
  have e : (sI μ 0 13 c).1 0 11 = nI k := by rw [sI_s, upd_n _ _ (by omega)]; exact ht
  have e4 : (sI μ 0 13 c).1 4 = μ.1 4 := sI_n _ _ _ _ (by omega)
  unfold fX6_fail
  rw [hf, if_pos (by decide), qlet_e, e, qix_nI (by omega) (by omega), nI_clamp (by omega), e4, qlet_e]
  rfl
/-- a fault stands -/
def FM (μ : St) (e pl : Nat) : Prop := μ.1 0 13 = nI e ∧ (e = 1 ∨ e = 2) ∧ μ.1 0 14 = nI pl ∧ ∃ j, j ≤ 400 ∧ μ.1 0 11 = nI j
theorem FM.ne {μ : St} {e pl : Nat} (h : FM μ e pl) : ¬ μ.1 0 13 = 0 ∧ ¬ μ.1 0 13 ≤ 0 := by
  rw [h.1]
  exact ⟨nI_ne0 (by have := h.2.1; omega) (by have := h.2.1; omega), nI_nle (by have := h.2.1; omega) (by have := h.2.1; omega)⟩
theorem fail_no {μ : St} {e pl : Nat} {c : Int32} (h : FM μ e pl) : fX6_fail μ c = some (0, μ) := by
  unfold fX6_fail
  rw [if_neg h.ne.2]
theorem failS_fm {μ : St} {k e : Nat} {pl : Nat} (ht : μ.1 0 11 = nI k) (hk : k ≤ 400) (he : e = 1 ∨ e = 2) (hp : μ.1 4 k = nI pl) : FM (failS μ k (nI e)) e pl := by
  unfold failS
  exact ⟨by rw [sI_s, upd_n _ _ (by omega), sI_s, upd_s], he, by rw [sI_s, upd_s]; exact hp, k, hk, by rw [sI_s, upd_n _ _ (by omega), sI_s, upd_n _ _ (by omega)]; exact ht⟩
/-- what an expression may change -/
def XM (p c : Nat) (μ μ' : St) : Prop := (∀ i, i ≠ 0 → i ≠ 19 → i ≠ 20 → i ≠ 21 → μ'.1 i = μ.1 i) ∧ (∀ i, i ≠ 11 → i ≠ 12 → i ≠ 13 → i ≠ 14 → i ≠ 30 → i ≠ 34 → μ'.1 0 i = μ.1 0 i) ∧ (∀ i, 19 ≤ i → i ≤ 20 → ∀ j, j < 500 * p + c ∨ 500 * p + 500 ≤ j → μ'.1 i j = μ.1 i j) ∧ μ'.2 = μ.2
theorem XM.rf (p c : Nat) (μ : St) : XM p c μ μ := ⟨fun _ _ _ _ _ => rfl, fun _ _ _ _ _ _ _ => rfl, fun _ _ _ _ _ => rfl, rfl⟩
theorem XM.trans {p c : Nat} {a b d : St} (h : XM p c a b) (g : XM p c b d) : XM p c a d := ⟨fun i h1 h2 h3 h4 => (g.1 i h1 h2 h3 h4).trans (h.1 i h1 h2 h3 h4), fun i h1 h2 h3 h4 h5 h6 => (g.2.1 i h1 h2 h3 h4 h5 h6).trans (h.2.1 i h1 h2 h3 h4 h5 h6), fun i h1 h2 j hj => (g.2.2.1 i h1 h2 j hj).trans (h.2.2.1 i h1 h2 j hj), g.2.2.2.trans h.2.2.2⟩
theorem XM.s0 (p c : Nat) (μ : St) {k : Nat} (v : Int32) (hk : k = 11 ∨ k = 12 ∨ k = 13 ∨ k = 14 ∨ k = 30 ∨ k = 34) : XM p c μ (sI μ 0 k v) := ⟨fun i h1 _ _ _ => sI_n _ _ _ _ h1, fun i h1 h2 h3 h4 h5 h6 => by rw [sI_s, upd_n _ _ (by omega)], fun i h1 h2 j hj => by rw [sI_n _ _ _ _ (by omega)], rfl⟩
theorem XM.s21 (p c : Nat) (μ : St) (k : Nat) (v : Int32) : XM p c μ (sI μ 21 k v) := ⟨fun i _ _ _ h4 => sI_n _ _ _ _ h4, fun i _ _ _ _ _ _ => by rw [sI_n _ _ _ _ (by omega)], fun i h1 h2 j hj => by rw [sI_n _ _ _ _ (by omega)], rfl⟩
theorem XM.s19 (p c : Nat) (μ : St) {i k : Nat} (v : Int32) (hi : i = 19 ∨ i = 20) (hk : 500 * p + c ≤ k) (hk2 : k < 500 * p + 500) : XM p c μ (sI μ i k v) := ⟨fun j h1 h2 h3 h4 => sI_n _ _ _ _ (by omega), fun j _ _ _ _ _ _ => by rw [sI_n _ _ _ _ (by omega)], fun j h1 h2 x hx => by
    by_cases q : j = i
    · rw [q, sI_s, upd_n _ _ (by omega)]
    · rw [sI_n _ _ _ _ q], rfl⟩
theorem XM.mono {p c c' : Nat} {a b : St} (h : XM p c' a b) (hc : c ≤ c') : XM p c a b := ⟨h.1, h.2.1, fun i h1 h2 j hj => h.2.2.1 i h1 h2 j (by omega), h.2.2.2⟩
theorem failS_xm (p c : Nat) (μ : St) (k : Nat) (e : Int32) : XM p c μ (failS μ k e) := (XM.s0 p c μ (k := 13) e (by omega)).trans (XM.s0 p c _ (k := 14) _ (by omega))
theorem XM.tks {p c : Nat} {μ μ' : St} {f : Nat → Int32} {n : Nat} (h : XM p c μ μ') (T : TKs f n μ) : TKs f n μ' := fun j h1 h2 => by
  unfold TokM
  rw [h.1 3 (by omega) (by omega) (by omega) (by omega), h.1 4 (by omega) (by omega) (by omega) (by omega), h.1 5 (by omega) (by omega) (by omega) (by omega)]
  exact T j h1 h2
/-- on to the next token, or no room -/
theorem next_go {μ : St} {k : Nat} (ht : μ.1 0 11 = nI k) (hk : k < 400) : fX6_next μ = some (0, sI μ 0 11 (nI (k + 1))) := by
  unfold fX6_next
  rw [qlet_e, ht, if_neg (fun q => by have := (nI_eq (b := 400) (by omega) (by omega)).mp q; omega), nI_1, qlet_e]
theorem next_full {μ : St} (hf : μ.1 0 13 = 0) (ht : μ.1 0 11 = nI 400) : fX6_next μ = some (0, failS μ 400 2) := by
  unfold fX6_next
  rw [qlet_e, ht, if_pos (show nI 400 = 400 from rfl), fail_is hf ht (by omega), qcall_s]
theorem next_dead {μ : St} {e pl : Nat} (h : FM μ e pl) : ∃ μ', fX6_next μ = some (0, μ') ∧ FM μ' e pl ∧ ∀ p c, XM p c μ μ' := by
  obtain ⟨h1, h2, h3, j, hj, h4⟩ := id h
  by_cases q : j = 400
  · subst q
    refine ⟨μ, ?_, h, fun p c => XM.rf p c μ⟩
    unfold fX6_next
    rw [qlet_e, h4, if_pos (show nI 400 = 400 from rfl), fail_no h, qcall_s]
  · exact ⟨_, next_go h4 (by omega), ⟨by rw [sI_s, upd_n _ _ (by omega)]; exact h1, h2, by rw [sI_s, upd_n _ _ (by omega)]; exact h3, j + 1, by omega, by rw [sI_s, upd_s]⟩, fun p c => XM.s0 p c μ _ (by omega)⟩
-- ===== signs that wait =====
def depW : List Nat → Nat
  | [] => 0
  | x :: r => (if x = 23 then 1 else 0) + depW r
def bdT : List Nat → Nat
  | [] => 0
  | x :: _ => bondN x
def okW : List Nat → Prop
  | [] => True
  | x :: r => (x = 16 ∨ x = 17 ∨ x = 18 ∨ x = 23) ∧ (x = 23 ∨ bdT r < bondN x) ∧ okW r
theorem okW_bd : ∀ {w : List Nat}, okW w → bdT w = 0 ∨ bdT w = 4 ∨ bdT w = 5
  | [], _ => Or.inl rfl
  | x :: r, h => by
    rw [bdT]
    rcases h.1 with rfl | rfl | rfl | rfl
    · exact Or.inr (Or.inl rfl)
    · exact Or.inr (Or.inl rfl)
    · exact Or.inr (Or.inr rfl)
    · exact Or.inl rfl
theorem okW_len : ∀ {w : List Nat}, okW w → w.length + (if bdT w = 0 then 2 else if bdT w = 4 then 1 else 0) ≤ 3 * depW w + 2
  | [], _ => by decide
  | x :: r, h => by
    have ih := okW_len h.2.2
    obtain ⟨h1, h2, h3⟩ := h
    rw [List.length_cons, depW, bdT]
    have hr := okW_bd h3
    rcases h1 with rfl | rfl | rfl | rfl
    · have b : bondN 16 = 4 := rfl
      rw [b] at h2 ⊢
      rw [if_neg (show ¬ 4 = 0 by omega), if_pos (show 4 = 4 from rfl), if_neg (show ¬ 16 = 23 by omega)]
      rcases hr with e | e | e
      · rw [e, if_pos rfl] at ih
        omega
      · omega
      · omega
    · have b : bondN 17 = 4 := rfl
      rw [b] at h2 ⊢
      rw [if_neg (show ¬ 4 = 0 by omega), if_pos (show 4 = 4 from rfl), if_neg (show ¬ 17 = 23 by omega)]
      rcases hr with e | e | e
      · rw [e, if_pos rfl] at ih
        omega
      · omega
      · omega
    · have b : bondN 18 = 5 := rfl
      rw [b] at h2 ⊢
      rw [if_neg (show ¬ 5 = 0 by omega), if_neg (show ¬ 5 = 4 by omega), if_neg (show ¬ 18 = 23 by omega)]
      rcases hr with e | e | e
      · rw [e, if_pos rfl] at ih
        omega
      · rw [e, if_neg (by decide), if_pos rfl] at ih
        omega
      · omega
    · have b : bondN 23 = 0 := rfl
      rw [b, if_pos rfl, if_pos rfl]
      rcases hr with e | e | e
      · rw [e, if_pos rfl] at ih
        omega
      · rw [e, if_neg (by decide), if_pos rfl] at ih
        omega
      · rw [e, if_neg (by decide), if_neg (by decide)] at ih
        omega
theorem okW_3 {w : List Nat} (h : okW w) : w.length ≤ 3 * depW w + 2 := by
  have h1 := okW_len h
  exact Nat.le_trans (Nat.le_add_right _ _) h1
theorem okW_20 {w : List Nat} (h : okW w) (hd : depW w ≤ 6) : w.length ≤ 20 := by
  have h1 := okW_3 h
  omega
theorem depW_le : ∀ w : List Nat, depW w ≤ w.length
  | [] => Nat.le_refl _
  | x :: r => by
    have := depW_le r
    rw [depW, List.length_cons]
    split <;> omega
/-- putting out: what is left, how deep -/
theorem popB_ok {b : Nat} (hb : 1 ≤ b) : ∀ {w : List Nat}, okW w → okW (popB b w).2 ∧ depW (popB b w).2 = depW w ∧ (∀ x ∈ (popB b w).1, x = 16 ∨ x = 17 ∨ x = 18) ∧ ((popB b w).2 = [] ∨ bdT (popB b w).2 < b)
  | [], _ => ⟨trivial, rfl, fun x hx => (by cases hx), Or.inl rfl⟩
  | x :: r, h => by
    obtain ⟨i1, i2, i3, i4⟩ := popB_ok hb h.2.2
    rw [popB]
    by_cases q : b ≤ bondN x
    · rw [if_pos q]
      have hx : x ≠ 23 := by
        rintro rfl
        have : bondN 23 = 0 := rfl
        omega
      refine ⟨i1, ?_, fun y hy => ?_, i4⟩
      · show depW (popB b r).2 = depW (x :: r)
        rw [i2, depW, if_neg hx]
        omega
      · have hy : y ∈ x :: (popB b r).1 := hy
        rcases List.mem_cons.mp hy with e | e
        · rw [e]
          have := h.1
          omega
        · exact i3 y e
    · rw [if_neg q]
      exact ⟨h, rfl, fun y hy => (by cases hy), Or.inr (by show bondN x < b; omega)⟩
theorem popB_one {w : List Nat} : okW w → popB 1 w = popB 4 w := by
  induction w with
  | nil => intro _; rfl
  | cons x r ih =>
    intro h
    rw [popB, popB, ih h.2.2]
    rcases h.1 with rfl | rfl | rfl | rfl <;> rfl
theorem popB_open {w : List Nat} (h : okW w) (hd : 0 < depW w) : ∃ r, (popB 4 w).2 = 23 :: r ∧ okW r ∧ depW r + 1 = depW w := by
  obtain ⟨a1, a2, a3, a4⟩ := popB_ok (b := 4) (by omega) h
  rcases hw : (popB 4 w).2 with _ | ⟨x, r⟩
  · rw [hw] at a2
    have : depW [] = 0 := rfl
    omega
  · rw [hw] at a1 a2 a4
    have hx : x = 23 := by
      rcases a4 with e | e
      · cases e
      · have e : bondN x < 4 := e
        rcases a1.1 with rfl | rfl | rfl | rfl
        · exact absurd e (by decide)
        · exact absurd e (by decide)
        · exact absurd e (by decide)
        · rfl
    subst hx
    refine ⟨r, rfl, a1.2.2, ?_⟩
    rw [depW, if_pos rfl] at a2
    omega
theorem popB_none {w : List Nat} (h : okW w) (hd : depW w = 0) : (popB 4 w).2 = [] := by
  obtain ⟨a1, a2, a3, a4⟩ := popB_ok (b := 4) (by omega) h
  rcases hw : (popB 4 w).2 with _ | ⟨x, r⟩
  · rfl
  · rw [hw] at a1 a2 a4
    exfalso
    rcases a4 with e | e
    · cases e
    · have e : bondN x < 4 := e
      rcases a1.1 with rfl | rfl | rfl | rfl
      · exact absurd e (by decide)
      · exact absurd e (by decide)
      · exact absurd e (by decide)
      · rw [depW, if_pos rfl] at a2
        omega
/-- the codes of an expression under way: u of them stand behind the signs that wait -/
def EXi (De : List Op) (wa : List Nat) (u : Nat) : Prop := okW wa ∧ depW wa ≤ 6 ∧ dp 16 De 0 = some (wa.length - depW wa + u) ∧ ∀ o ∈ De, okOp o
theorem okW_14 {w : List Nat} (h : okW w) (hd : depW w ≤ 6) : w.length - depW w ≤ 14 := by
  have h1 := okW_3 h
  have h2 := depW_le w
  omega
theorem EXi.unit {De : List Op} {wa : List Nat} {o : Op} (h : EXi De wa 0) (ho : okOp o) (hp : ∀ c k, dp c [o] k = if k < c then some (k + 1) else none) : EXi (De ++ [o]) wa 1 := by
  obtain ⟨h1, h2, h3, h4⟩ := h
  have l := okW_14 h1 h2
  refine ⟨h1, h2, ?_, fun x hx => ?_⟩
  · rw [dp_app, h3, Option.bind_some, hp, if_pos (by omega)]
  · rcases List.mem_append.mp hx with e | e
    · exact h4 x e
    · rw [List.mem_singleton.mp e]
      exact ho
theorem EXi.pops : ∀ {p : List Nat} {De : List Op} {m : Nat}, dp 16 De 0 = some (m + p.length + 1) → (∀ o ∈ De, okOp o) → (∀ x ∈ p, x = 16 ∨ x = 17 ∨ x = 18) → dp 16 (De ++ p.map Op.bin) 0 = some (m + 1) ∧ ∀ o ∈ De ++ p.map Op.bin, okOp o
  | [], De, m, h, ho, _ => by
    rw [List.map_nil, List.append_nil]
    exact ⟨h, ho⟩
  | x :: p, De, m, h, ho, hp => by
    rw [List.length_cons] at h
    have hx := hp x List.mem_cons_self
    have := EXi.pops (p := p) (De := De ++ [Op.bin x]) (m := m) (by
      rw [dp_app, h, Option.bind_some, dp, if_pos (by omega), dp]
      first | rfl | (congr 1; omega)) (fun o h2 => by
      rcases List.mem_append.mp h2 with e | e
      · exact ho o e
      · rw [List.mem_singleton.mp e]
        show 16 ≤ x ∧ x ≤ 18
        omega) (fun y hy => hp y (List.mem_cons_of_mem _ hy))
    rw [List.append_assoc] at this
    exact this
theorem EXi.pop {De : List Op} {wa : List Nat} {b : Nat} (hb : 1 ≤ b) (h : EXi De wa 1) : EXi (De ++ (popB b wa).1.map Op.bin) (popB b wa).2 1 := by
  obtain ⟨h1, h2, h3, h4⟩ := h
  obtain ⟨a1, a2, a3, a4⟩ := popB_ok hb h1
  have l := popB_len b wa
  have l2 := depW_le (popB b wa).2
  obtain ⟨c1, c2⟩ := EXi.pops (p := (popB b wa).1) (De := De) (m := (popB b wa).2.length - depW (popB b wa).2) (by rw [h3]; congr 1; omega) h4 a3
  exact ⟨a1, by omega, c1, c2⟩
