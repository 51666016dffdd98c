-- ===== an expression: both at once =====
theorem popB_app2 {b : Nat} {base : List Nat} : ∀ {w : List Nat}, (popB b w).2 ≠ [] → (popB b (w ++ base)).1 = (popB b w).1 ∧ (popB b (w ++ base)).2 = (popB b w).2 ++ base
  | [], h => absurd rfl h
  | x :: r, h => by
    rw [List.cons_append, popB, popB]
    rw [popB] at h
    by_cases q : b ≤ bondN x
    · rw [if_pos q] at h ⊢
      rw [if_pos q]
      obtain ⟨h1, h2⟩ := popB_app2 (base := base) (w := r) h
      exact ⟨by show x :: _ = x :: _; rw [h1], h2⟩
    · rw [if_neg q, if_neg q]
      exact ⟨rfl, rfl⟩
def baseOk (base : List Nat) : Prop := base.length ≤ 3 ∧ (base = [] ∨ bdT base < 4)
theorem baseOk.pop {base : List Nat} (h : baseOk base) {b : Nat} (hb : 4 ≤ b) : popB b base = ([], base) := by
  rcases h.2 with e | e
  · subst e
    rfl
  · cases base with
    | nil => rfl
    | cons x r =>
      have e : bondN x < 4 := e
      rw [popB, if_neg (by omega)]
def Flt (t l0 : Nat) (X : Option (Int32 × St)) (σ μ' : St) : Prop := ∃ e pl σ', X = some (nI e, σ') ∧ FM μ' e pl ∧ σ'.1 34 9 = nI pl ∧ XC t l0 σ σ'
theorem Flt.pre {t l0 : Nat} {X Y : Option (Int32 × St)} {σ σ1 μ' : St} (h : Flt t l0 Y σ1 μ') (e : X = Y) (x : XC t l0 σ σ1) : Flt t l0 X σ μ' := by
  obtain ⟨a, b, c, h1, h2, h3, h4⟩ := h
  exact ⟨a, b, c, e.trans h1, h2, h3, x.trans h4⟩
section
variable {F t : Nat} {a2 : Int32} {s k n l0 d R : Nat} {σ : St} {f : Nat → Int32} {D : List Op} {W : List Nat} {rel : Bool}
theorem CL_syn (hF : 500 ≤ F) (hs : s ≤ 3) (hk : k ≤ 400) (P : PC σ f n t l0 k D W d rel) (hR : σ.1 (61 + 5 * t) 5 = nI R) (hR2 : R ≤ 12) (hn : nxt s (tkK f n k) d rel = none) (h0 : ¬ (tkK f n k = 25 ∧ s = 0)) : ∃ σ', CL F t a2 s k σ = some (nI 1, σ') ∧ σ'.1 34 9 = nI (tkS f n k) ∧ XC t l0 σ σ' := by
  obtain ⟨σ1, T, x, e⟩ := CL_step (a2 := a2) hF hs hk P hR hR2
  rw [if_neg h0, hn] at e
  exact ⟨σ1, e, T.2.2.2.2.2.2.2.2.1, x⟩
theorem CL_room (hF : 500 ≤ F) (hs : s ≤ 3) (hk : k ≤ 400) (P : PC σ f n t l0 k D W d rel) (hR : σ.1 (61 + 5 * t) 5 = nI R) (hR2 : R ≤ 12) {x : Nat} (hn : nxt s (tkK f n k) d rel = some x) (hr : 400 ≤ k ∨ lack (tkK f n k) d R = true) (h0 : ¬ (tkK f n k = 25 ∧ s = 0)) : ∃ σ', CL F t a2 s k σ = some (nI 2, σ') ∧ σ'.1 34 9 = nI (tkS f n k) ∧ XC t l0 σ σ' := by
  obtain ⟨σ1, T, x, e⟩ := CL_step (a2 := a2) hF hs hk P hR hR2
  rw [if_neg h0, hn] at e
  have e := e.trans (if_pos hr)
  exact ⟨σ1, e, T.2.2.2.2.2.2.2.2.1, x⟩
theorem CL_go (hF : 500 ≤ F) (hs : s ≤ 3) (hk : k < 400) (P : PC σ f n t l0 k D W d rel) (hR : σ.1 (61 + 5 * t) 5 = nI R) (hR2 : R ≤ 12) {x : Nat} (hn : nxt s (tkK f n k) d rel = some x) (hr : lack (tkK f n k) d R = false) (h0 : ¬ (tkK f n k = 25 ∧ s = 0)) : ∃ σ1, PT σ1 f n t l0 k D W d rel ∧ XC t l0 σ σ1 ∧ CL F t a2 s k σ = qcall (fX2_takeToken σ1 t) (fun _ σ2 => CL F t a2 x (k + 1) σ2) := by
  obtain ⟨σ1, T, x, e⟩ := CL_step (a2 := a2) hF hs (by omega) P hR hR2
  rw [if_neg h0, hn] at e
  have e := e.trans (if_neg (by
    rintro (h | h)
    · omega
    · rw [hr] at h
      exact absurd h (by decide)))
  exact ⟨σ1, T, x, e⟩
end
/-- both stand before the k-th token, within an expression -/
def ExH (f : Nat → Int32) (n t l0 : Nat) (D0 : List Op) (base : List Nat) (rel : Bool) (p c R u k : Nat) (De : List Op) (wa : List Nat) (σ μ : St) : Prop := PC σ f n t l0 k (D0 ++ De) (wa ++ base) (depW wa) rel ∧ σ.1 (61 + 5 * t) 5 = nI R ∧ PX μ p c De wa ∧ EXi De wa u ∧ μ.1 0 11 = nI k ∧ μ.1 0 13 = 0 ∧ TKs f n μ ∧ NoE f n k ∧ k ≤ 400 ∧ c + De.length + wa.length ≤ k
def ExB (F t : Nat) (a2 : Int32) (f : Nat → Int32) (n l0 : Nat) (D0 : List Op) (base : List Nat) (rel : Bool) (p c R : Nat) (X : Option (Int32 × St)) (k : Nat) (σ μ' : St) : Prop := ∃ k' De' wa' σ', X = CL F t a2 3 k' σ' ∧ XC t l0 σ σ' ∧ k ≤ k' ∧ PC σ' f n t l0 k' (D0 ++ De') (wa' ++ base) 0 rel ∧ σ'.1 (61 + 5 * t) 5 = nI R ∧ PX μ' p c (De' ++ (popB 4 wa').1.map Op.bin) [] ∧ EXi De' wa' 1 ∧ depW wa' = 0 ∧ μ'.1 0 11 = nI k' ∧ μ'.1 0 13 = 0 ∧ TKs f n μ' ∧ NoE f n k' ∧ k' ≤ 400 ∧ c + De'.length + wa'.length ≤ k' ∧ tkK f n k' ≠ 16 ∧ tkK f n k' ≠ 17 ∧ tkK f n k' ≠ 18
def ExG (F t : Nat) (a2 : Int32) (f : Nat → Int32) (n l0 : Nat) (D0 : List Op) (base : List Nat) (rel : Bool) (p c R N lab : Nat) (v2 : Int32) (s k : Nat) (σ μ : St) : Prop := ∃ μ', fX6_expression_L N lab 0 v2 μ = some (0, μ') ∧ XM p c μ μ' ∧ (Flt t l0 (CL F t a2 s k σ) σ μ' ∨ ExB F t a2 f n l0 D0 base rel p c R (CL F t a2 s k σ) k σ μ')
theorem ExB.pre {F t : Nat} {a2 : Int32} {f : Nat → Int32} {n l0 : Nat} {D0 : List Op} {base : List Nat} {rel : Bool} {p c R : Nat} {X Y : Option (Int32 × St)} {k k1 : Nat} {σ σ1 μ' : St} (h : ExB F t a2 f n l0 D0 base rel p c R Y k1 σ1 μ') (e : X = Y) (x : XC t l0 σ σ1) (hk : k ≤ k1) : ExB F t a2 f n l0 D0 base rel p c R X k σ μ' := by
  obtain ⟨k', De', wa', σ', h1, h2, h3, h4⟩ := h
  exact ⟨k', De', wa', σ', e.trans h1, x.trans h2, by omega, h4⟩
theorem ExG.pre {F t : Nat} {a2 : Int32} {f : Nat → Int32} {n l0 : Nat} {D0 : List Op} {base : List Nat} {rel : Bool} {p c R N N1 lab lab1 : Nat} {v2 v21 : Int32} {s s1 k k1 : Nat} {σ σ1 μ μ1 : St} (h : ExG F t a2 f n l0 D0 base rel p c R N1 lab1 v21 s1 k1 σ1 μ1) (e : CL F t a2 s k σ = CL F t a2 s1 k1 σ1) (e2 : fX6_expression_L N lab 0 v2 μ = fX6_expression_L N1 lab1 0 v21 μ1) (x : XC t l0 σ σ1) (y : XM p c μ μ1) (hk : k ≤ k1) : ExG F t a2 f n l0 D0 base rel p c R N lab v2 s k σ μ := by
  obtain ⟨μ', h1, h2, h3⟩ := h
  exact ⟨μ', e2.trans h1, y.trans h2, h3.imp (fun q => q.pre e x) (fun q => q.pre e x hk)⟩
theorem rk_var : ∀ c, c < 26 → ((26 ≤ rkT.getD c 0 ∧ rkT.getD c 0 ≤ 33) ↔ (6 ≤ c ∧ c ≤ 13)) ∧ (6 ≤ c ∧ c ≤ 13 → rkT.getD c 0 = c + 20) := by decide +kernel
theorem KR_var {c : Nat} {y : Int32} {α : Type} {a b : α} (h : KR c y) : (if y < 26 then a else if 33 < y then a else b) = if 6 ≤ c ∧ c ≤ 13 then b else a := by
  rcases h with ⟨h1, rfl⟩ | ⟨rfl, h1⟩
  · have r := rk_lt c (by omega)
    have v := (rk_var c (by omega)).1
    by_cases q1 : rkT.getD c 0 < 26
    · rw [if_pos (show nI (rkT.getD c 0) < 26 from nI_lt (b := 26) q1 (by omega)), if_neg (fun z => by have := v.mpr z; omega)]
    · rw [if_neg (show ¬ nI (rkT.getD c 0) < 26 from nI_nlt (b := 26) (by omega) (by omega))]
      by_cases q2 : 33 < rkT.getD c 0
      · rw [if_pos (show (33 : Int32) < nI (rkT.getD c 0) from nI_lt (a := 33) q2 (by omega)), if_neg (fun z => by have := v.mpr z; omega)]
      · rw [if_neg (show ¬ (33 : Int32) < nI (rkT.getD c 0) from nI_nlt (a := 33) (by omega) (by omega)), if_pos (v.mp ⟨by omega, by omega⟩)]
  · rw [if_neg (show ¬ (6 ≤ 26 ∧ 26 ≤ 13) by omega)]
    rcases h1 with rfl | rfl
    · rw [if_pos (by decide)]
    · rw [if_pos (by decide)]
theorem PX.xm {μ μ' : St} {p c : Nat} {De De' : List Op} {wa : List Nat} (X : PX μ p c De wa) (h1 : μ'.1 0 12 = μ.1 0 12) (h2 : μ'.1 0 34 = μ.1 0 34) (h3 : μ'.1 21 = μ.1 21) (h4 : μ'.1 0 30 = nI (500 * p + (c + De'.length))) (h5 : HasM (μ'.1 19) (μ'.1 20) (500 * p + c) De') (h6 : c + De'.length + wa.length ≤ 401) : PX μ' p c De' wa := by
  obtain ⟨x1, x2, x3, x4, x5, x6, x7, x8, x9⟩ := X
  exact ⟨h1.trans x1, h2.trans x2, by rw [h3]; exact x3, h4, h5, h6, x7, x8, x9⟩
/-- a unit, or an ( : at a unit's place -/
theorem ex_at {F t : Nat} {a2 : Int32} {f : Nat → Int32} {n l0 : Nat} {D0 : List Op} {base : List Nat} {rel : Bool} {p c R N k : Nat} {De : List Op} {wa : List Nat} {σ μ : St} (hF : 500 ≤ F) (hR2 : R ≤ 12) (hb : baseOk base) (h : ExH f n t l0 D0 base rel p c R 0 k De wa σ μ) (hN : 402 - k ≤ N + 1) (ih0 : ∀ De wa σ μ, k < 400 → ExH f n t l0 D0 base rel p c R 0 (k + 1) De wa σ μ → ExG F t a2 f n l0 D0 base rel p c R N 0 1 2 (k + 1) σ μ) (ih1 : ∀ De wa σ μ, k < 400 → ExH f n t l0 D0 base rel p c R 1 (k + 1) De wa σ μ → ExG F t a2 f n l0 D0 base rel p c R N 1 0 3 (k + 1) σ μ) : ExG F t a2 f n l0 D0 base rel p c R (N + 1) 0 1 2 k σ μ := by
  obtain ⟨P, hR, X, E, ht, hf, T, hE, hk, hl⟩ := id h
  obtain ⟨x1, x2, x3, x4, x5, x6, x7, x8, x9⟩ := id X
  have Tk := T k hk hE
  have l20 := okW_20 x8 x9
  have bl := hb.1
  have hd := P.2.2.2.2.1
  have pl : (wa ++ base).length ≤ 23 := by rw [List.length_append]; omega
  have h25 : ¬ (tkK f n k = 25 ∧ 2 = 0) := fun q => by omega
  obtain ⟨N', rfl⟩ : ∃ N', N = N' + 1 := ⟨N - 1, by omega⟩
  have noE : tkK f n k ≠ 25 → NoE f n (k + 1) := fun q j hj => by
    by_cases e : j = k
    · rw [e]; exact q
    · exact hE j (by omega)
  by_cases q23 : tkK f n k = 23
  · have nx : nxt 2 (tkK f n k) (depW wa) rel = some 2 := by rw [q23]; rfl
    have e0 : fX6_expression_L (N' + 1 + 1) 0 0 1 μ = if nI (depW wa) = 6 then some (0, failS μ k 2) else qcall (fX6_next (sI μ 0 12 (nI (depW wa + 1)))) (fun _ σ65 => qix (σ65.1 0 34) 48 (fX6_expression_L (N' + 1) 0 0 1 (sI (sI σ65 21 (σ65.1 0 34).toNatClampNeg 6) 0 34 ((sI σ65 21 (σ65.1 0 34).toNatClampNeg 6).1 0 34 + 1)))) := by
      rw [fX6_expression_L, if_pos rfl]
      simp only [qlet_e]
      rw [if_neg (show ¬ (1 : Int32) = 0 by decide), hf, if_pos rfl, is_is (a := 6) (c := 23) hf ht hk Tk (by omega) rfl, qcall_s, decide_eq_true q23, if_neg b2t, x1]
      by_cases q6 : nI (depW wa) = 6
      · have fm : FM (failS μ k 2) 2 (tkS f n k) := failS_fm (e := 2) ht hk (by omega) Tk.2.1
        rw [if_pos q6, if_pos q6, fail_is hf ht hk, qcall_s, if_neg fm.ne.2]
      · rw [if_neg q6, if_neg q6, hf, if_pos (show (0 : Int32) ≤ 0 by decide), nI_1]
    unfold ExG
    rw [e0]
    by_cases q6 : depW wa = 6
    · -- a 7th (
      have fm : FM (failS μ k 2) 2 (tkS f n k) := failS_fm (e := 2) ht hk (by omega) Tk.2.1
      rw [q6, if_pos (show nI 6 = 6 from rfl)]
      obtain ⟨σ', a1, a3, a4⟩ := CL_room (a2 := a2) hF (by omega) hk P hR hR2 nx (Or.inr (by rw [q23, q6]; unfold lack; simp)) h25
      exact ⟨_, rfl, failS_xm p c μ k 2, Or.inl ⟨2, tkS f n k, σ', a1, fm, a3, a4⟩⟩
    · rw [if_neg (show ¬ nI (depW wa) = 6 from fun q => q6 ((nI_eq (b := 6) (by omega) (by omega)).mp q))]
      have y1 : XM p c μ (sI μ 0 12 (nI (depW wa + 1))) := XM.s0 p c μ _ (by omega)
      have t1 : (sI μ 0 12 (nI (depW wa + 1))).1 0 11 = nI k := by rw [sI_s, upd_n _ _ (by omega)]; exact ht
      have f1 : (sI μ 0 12 (nI (depW wa + 1))).1 0 13 = 0 := by rw [sI_s, upd_n _ _ (by omega)]; exact hf
      have w1 : (sI μ 0 12 (nI (depW wa + 1))).1 0 34 = nI wa.length := by rw [sI_s, upd_n _ _ (by omega)]; exact x2
      have d1 : (sI μ 0 12 (nI (depW wa + 1))).1 0 12 = nI (depW wa + 1) := by rw [sI_s, upd_s]
      have o1 : ∀ i, i ≠ 0 → (sI μ 0 12 (nI (depW wa + 1))).1 i = μ.1 i := fun i hi => sI_n _ _ _ _ hi
      have c1 : (sI μ 0 12 (nI (depW wa + 1))).1 0 30 = μ.1 0 30 := by rw [sI_s, upd_n _ _ (by omega)]
      generalize sI μ 0 12 (nI (depW wa + 1)) = ν at y1 t1 f1 w1 d1 o1 c1
      by_cases q400 : k = 400
      · subst q400
        rw [next_full f1 t1, qcall_s]
        have fm : FM (failS ν 400 2) 2 (tkS f n 400) := failS_fm (e := 2) t1 (by omega) (by omega) (by rw [o1 4 (by omega)]; exact Tk.2.1)
        have w2 : (failS ν 400 2).1 0 34 = nI wa.length := by unfold failS; rw [sI_s, upd_n _ _ (by omega), sI_s, upd_n _ _ (by omega)]; exact w1
        have y2 : XM p c μ (failS ν 400 2) := y1.trans (failS_xm p c ν 400 2)
        generalize failS ν 400 2 = μ2 at fm w2 y2
        rw [w2, qix_nI (show wa.length < 48 by omega) (by omega), nI_clamp (by omega)]
        have fm2 : FM (sI (sI μ2 21 wa.length 6) 0 34 ((sI μ2 21 wa.length 6).1 0 34 + 1)) 2 (tkS f n 400) := by
          obtain ⟨z1, z2, z3, z4⟩ := fm
          refine ⟨?_, z2, ?_, ?_⟩
          · rw [sI_s, upd_n _ _ (by omega), sI_n _ _ _ _ (by omega)]; exact z1
          · rw [sI_s, upd_n _ _ (by omega), sI_n _ _ _ _ (by omega)]; exact z3
          · rw [sI_s, upd_n _ _ (by omega), sI_n _ _ _ _ (by omega)]; exact z4
        rw [ex0_dead fm2]
        obtain ⟨σ', a1, a3, a4⟩ := CL_room (a2 := a2) hF (by omega) hk P hR hR2 nx (Or.inl (by omega)) h25
        exact ⟨_, rfl, (y2.trans (XM.s21 p c μ2 wa.length 6)).trans (XM.s0 p c _ (k := 34) _ (by omega)), Or.inl ⟨2, tkS f n 400, σ', a1, fm2, a3, a4⟩⟩
      · have w2 : (sI ν 0 11 (nI (k + 1))).1 0 34 = nI wa.length := by rw [sI_s, upd_n _ _ (by omega)]; exact w1
        have w3 : (sI (sI ν 0 11 (nI (k + 1))) 21 wa.length 6).1 0 34 = nI wa.length := by rw [sI_n _ _ _ _ (by omega)]; exact w2
        rw [next_go t1 (by omega), qcall_s, w2, qix_nI (show wa.length < 48 by omega) (by omega), nI_clamp (by omega), w3, nI_1]
        obtain ⟨σ1, PT1, xc1, g1⟩ := CL_go (a2 := a2) hF (by omega) (show k < 400 by omega) P hR hR2 nx (by rw [q23]; unfold lack; rw [decide_eq_false (show ¬ 6 ≤ depW wa by omega)]; simp) h25
        obtain ⟨σ2, g2, P2, xc2⟩ := take_open PT1 (by omega) q23 (by omega) (by omega)
        rw [g2, qcall_s] at g1
        have yy : XM p c μ (sI (sI (sI ν 0 11 (nI (k + 1))) 21 wa.length 6) 0 34 (nI (wa.length + 1))) := ((y1.trans (XM.s0 p c ν (k := 11) _ (by omega))).trans (XM.s21 p c _ wa.length 6)).trans (XM.s0 p c _ (k := 34) _ (by omega))
        have HH : ExH f n t l0 D0 base rel p c R 0 (k + 1) De (23 :: wa) σ2 (sI (sI (sI ν 0 11 (nI (k + 1))) 21 wa.length 6) 0 34 (nI (wa.length + 1))) := by
          have xcc := xc1.trans xc2
          refine ⟨?_, by rw [xcc.2.1 5 (by omega)]; exact hR, ⟨?_, ?_, ?_, ?_, ?_, ?_, x7, ⟨by omega, Or.inl rfl, x8⟩, ?_⟩, ⟨⟨by omega, Or.inl rfl, x8⟩, ?_, ?_, E.2.2.2⟩, ?_, ?_, yy.tks T, noE (by omega), by omega, ?_⟩
          · rw [depW, if_pos rfl, Nat.add_comm 1]
            exact P2
          · rw [sI_s, upd_n _ _ (by omega), sI_n _ _ _ _ (by omega), sI_s, upd_n _ _ (by omega), d1, depW, if_pos rfl, Nat.add_comm 1]
          · rw [sI_s, upd_s, List.length_cons]
          · rw [sI_n _ _ _ _ (by omega), sI_s, sI_n _ _ _ _ (by omega), o1 21 (by omega)]
            have := HasS_push x3 (wR 23)
            rw [List.length_map] at this
            exact this
          · rw [sI_s, upd_n _ _ (by omega), sI_n _ _ _ _ (by omega), sI_s, upd_n _ _ (by omega), c1]
            exact x4
          · rw [sI_n _ _ _ _ (by omega), sI_n _ _ _ _ (by omega), sI_n _ _ _ _ (by omega), o1 19 (by omega), sI_n _ _ _ _ (by omega), sI_n _ _ _ _ (by omega), sI_n _ _ _ _ (by omega), o1 20 (by omega)]
            exact x5
          · rw [List.length_cons]; omega
          · rw [depW, if_pos rfl]; omega
          · rw [depW, if_pos rfl]; omega
          · have := E.2.2.1
            rw [this, depW, if_pos rfl, List.length_cons]
            congr 1
            have := depW_le wa
            omega
          · rw [sI_s, upd_n _ _ (by omega), sI_n _ _ _ _ (by omega), sI_s, upd_s]
          · rw [sI_s, upd_n _ _ (by omega), sI_n _ _ _ _ (by omega), sI_s, upd_n _ _ (by omega)]; exact f1
          · rw [List.length_cons]; omega
        obtain ⟨μ', r1, r2, r3⟩ := ih0 De (23 :: wa) σ2 _ (by omega) HH
        exact ⟨μ', r1, yy.trans r2, r3.imp (fun q => q.pre g1 (xc1.trans xc2)) (fun q => q.pre g1 (xc1.trans xc2) (by omega))⟩
  · have e1 : fX6_expression_L (N' + 1 + 1) 0 0 1 μ = if 6 ≤ tkK f n k ∧ tkK f n k ≤ 13 then qcall (fX6_emit μ 1 (μ.1 3 k - 26)) (fun _ σ176 => qcall (fX6_next σ176) (fun _ σ197 => fX6_expression_L (N' + 1) 1 0 0 σ197)) else if tkK f n k = 14 then qcall (fX6_emit μ 0 (μ.1 5 k)) (fun _ σ193 => qcall (fX6_next σ193) (fun _ σ197 => fX6_expression_L (N' + 1) 1 0 0 σ197)) else some (0, failS μ k 1) := by
      rw [fX6_expression_L, if_pos rfl]
      simp only [qlet_e]
      rw [if_neg (show ¬ (1 : Int32) = 0 by decide), hf, if_pos rfl, is_is (a := 6) (c := 23) hf ht hk Tk (by omega) rfl, qcall_s, decide_eq_false q23, if_pos b2f, hf, if_pos rfl, ht]
      simp only [qix_nI (show k < 403 by omega) (show 403 ≤ 2 ^ 31 by omega), nI_clamp (show k < 2 ^ 31 by omega)]
      rw [KR_var Tk.1]
      by_cases qv : 6 ≤ tkK f n k ∧ tkK f n k ≤ 13
      · rw [if_pos qv, if_pos qv, is_is (a := 2) (c := 14) hf ht hk Tk (by omega) rfl, qcall_s, decide_eq_false (by omega), if_pos b2f, if_neg (show ¬ (1 : Int32) = 0 by decide)]
        simp only [hf, ht, show (0 : Int32) ≤ 0 from by decide, if_true, show ¬ (1 : Int32) = 0 from by decide, if_false, qix_nI (show k < 403 by omega) (show 403 ≤ 2 ^ 31 by omega), nI_clamp (show k < 2 ^ 31 by omega)]
      · rw [if_neg qv, if_neg qv, is_is (a := 2) (c := 14) hf ht hk Tk (by omega) rfl, qcall_s]
        by_cases q14 : tkK f n k = 14
        · rw [decide_eq_true q14, if_neg b2t, if_pos q14]
          simp only [hf, ht, show (0 : Int32) ≤ 0 from by decide, if_true, qix_nI (show k < 403 by omega) (show 403 ≤ 2 ^ 31 by omega), nI_clamp (show k < 2 ^ 31 by omega)]
        · have fm : FM (failS μ k 1) 1 (tkS f n k) := failS_fm (e := 1) ht hk (by omega) Tk.2.1
          rw [decide_eq_false q14, if_pos b2f, if_neg q14, if_pos trivial, fail_is hf ht hk, qcall_s, if_neg fm.ne.2]
    -- a unit is taken by both
    have unit : ∀ (o : Op) (y1 y2 : Int32), okOp o → (∀ c k, dp c [o] k = if k < c then some (k + 1) else none) → y1 = mK o → y2 = mV o → tkK f n k ≠ 25 → nxt 2 (tkK f n k) (depW wa) rel = some 3 → lack (tkK f n k) (depW wa) R = false → (∀ σ1, k < 400 → PT σ1 f n t l0 k (D0 ++ De) (wa ++ base) (depW wa) rel → ∃ σ2, fX2_takeToken σ1 t = some (0, σ2) ∧ PC σ2 f n t l0 (k + 1) (D0 ++ De ++ [o]) (wa ++ base) (depW wa) rel ∧ XC t l0 σ1 σ2) → fX6_expression_L (N' + 1 + 1) 0 0 1 μ = qcall (fX6_emit μ y1 y2) (fun _ σ176 => qcall (fX6_next σ176) (fun _ σ197 => fX6_expression_L (N' + 1) 1 0 0 σ197)) → ExG F t a2 f n l0 D0 base rel p c R (N' + 1 + 1) 0 1 2 k σ μ := fun o y1 y2 ho hdp hy1 hy2 n25 nx hlk tk e => by
      unfold ExG
      rw [e]
      obtain ⟨ν, m1, m2, m3, m4, m5, m6, m7, m8⟩ := emitM (wa' := wa) o X hy1 hy2 (by omega)
      have t1 : ν.1 0 11 = nI k := (m8 11 (by omega)).trans ht
      have f1 : ν.1 0 13 = 0 := (m8 13 (by omega)).trans hf
      have o4 : ν.1 4 = μ.1 4 := m7.1 4 (by omega) (by omega) (by omega) (by omega)
      have X1 : PX ν p c (De ++ [o]) wa := X.xm m2 m3 m4 m5 m6 (by rw [List.length_append, List.length_singleton]; omega)
      rw [m1, qcall_s]
      by_cases q400 : k = 400
      · subst q400
        have fm : FM (failS ν 400 2) 2 (tkS f n 400) := failS_fm (e := 2) t1 (by omega) (by omega) (by rw [o4]; exact Tk.2.1)
        rw [next_full f1 t1, qcall_s]
        obtain ⟨μ', b1, b2', b3⟩ := ex1_dead (N := N') (v1 := 0) (v2 := 0) fm X1.fail
        obtain ⟨σ', a1, a3, a4⟩ := CL_room (a2 := a2) hF (by omega) hk P hR hR2 nx (Or.inl (by omega)) h25
        exact ⟨μ', b1, (m7.trans (failS_xm p c ν 400 2)).trans b3, Or.inl ⟨2, tkS f n 400, σ', a1, b2', a3, a4⟩⟩
      · rw [next_go t1 (by omega), qcall_s]
        obtain ⟨σ1, PT1, xc1, g1⟩ := CL_go (a2 := a2) hF (by omega) (show k < 400 by omega) P hR hR2 nx hlk h25
        obtain ⟨σ2, g2, P2, xc2⟩ := tk σ1 (by omega) PT1
        rw [g2, qcall_s] at g1
        have xcc := xc1.trans xc2
        have yy : XM p c μ (sI ν 0 11 (nI (k + 1))) := m7.trans (XM.s0 p c ν (k := 11) _ (by omega))
        have HH : ExH f n t l0 D0 base rel p c R 1 (k + 1) (De ++ [o]) wa σ2 (sI ν 0 11 (nI (k + 1))) := ⟨by rw [← List.append_assoc]; exact P2, by rw [xcc.2.1 5 (by omega)]; exact hR, X1.s0 (by omega), E.unit ho hdp, by rw [sI_s, upd_s], by rw [sI_s, upd_n _ _ (by omega)]; exact f1, yy.tks T, noE n25, by omega, by rw [List.length_append, List.length_singleton]; omega⟩
        obtain ⟨μ', r1, r2, r3⟩ := ih1 (De ++ [o]) wa σ2 _ (by omega) HH
        exact ⟨μ', r1, yy.trans r2, r3.imp (fun q => q.pre g1 xcc) (fun q => q.pre g1 xcc (by omega))⟩
    by_cases qv : 6 ≤ tkK f n k ∧ tkK f n k ≤ 13
    · rw [if_pos qv] at e1
      have ek : μ.1 3 k = nI (tkK f n k + 20) := by
        rcases Tk.1 with ⟨z1, z2⟩ | ⟨z1, -⟩
        · rw [z2, (rk_var _ (by omega)).2 qv]
        · omega
      refine unit (Op.var (tkK f n k - 6)) 1 (μ.1 3 k - 26) (show tkK f n k - 6 < 8 by omega) (fun c k => ?_) rfl ?_ (by omega) ?_ ?_ (fun σ1 hk4 PT1 => take_var PT1 hk4 (i := tkK f n k - 6) (by omega) (by omega)) e1
      · rw [dp, dp]
      · rw [ek, show (26 : Int32) = nI 26 from rfl, pk_sub (by omega)]
        show nI (tkK f n k + 20 - 26) = nI (tkK f n k - 6)
        rw [show tkK f n k + 20 - 26 = tkK f n k - 6 by omega]
      · unfold nxt nx2
        rw [if_neg (by omega), if_neg (by omega), if_pos rfl, if_neg (by omega), if_neg (by omega), if_pos qv]
      · unfold lack
        rw [decide_eq_false (show ¬ tkK f n k ≤ 2 by omega), decide_eq_false q23]
        rfl
    · rw [if_neg qv] at e1
      by_cases q14 : tkK f n k = 14
      · rw [if_pos q14] at e1
        obtain ⟨v, v1, v2⟩ := tkV_is q14
        refine unit (Op.num v) 0 (μ.1 5 k) v1 (fun c k => ?_) rfl ?_ (by omega) ?_ ?_ (fun σ1 hk4 PT1 => ?_) e1
        · rw [dp, dp]
        · rw [Tk.2.2 q14, v2]
          rfl
        · rw [q14]
          rfl
        · unfold lack
          rw [decide_eq_false (show ¬ tkK f n k ≤ 2 by omega), decide_eq_false q23]
          rfl
        · obtain ⟨v', σ2, w1, w2, w3, w4, w5⟩ := take_int PT1 hk4 q14
          have : v' = v := (nI_eq (by omega) (by omega)).mp (w2.symm.trans v2)
          subst this
          exact ⟨σ2, w3, w4, w5⟩
      · rw [if_neg q14] at e1
        have fm : FM (failS μ k 1) 1 (tkS f n k) := failS_fm (e := 1) ht hk (by omega) Tk.2.1
        have nx : nxt 2 (tkK f n k) (depW wa) rel = none := by
          unfold nxt nx2
          rw [if_neg (by omega), if_neg (by omega), if_pos rfl, if_neg q23, if_neg q14, if_neg qv]
        obtain ⟨σ', a1, a3, a4⟩ := CL_syn (a2 := a2) hF (by omega) hk P hR hR2 nx h25
        exact ⟨_, e1, failS_xm p c μ k 1, Or.inl ⟨1, tkS f n k, σ', a1, fm, a3, a4⟩⟩
theorem skip_close {α : Type} {J A : α} {tk d : Nat} {y : Int32} (h : ¬ (tk = 24 ∧ 0 < d)) (hy : y = nI d) : (if b2 (decide (tk = 24)) = 0 then J else if y ≤ 0 then J else A) = J := by
  by_cases q : tk = 24
  · have : d = 0 := by omega
    rw [decide_eq_true q, if_neg b2t, hy, this, if_pos (show nI 0 ≤ 0 by decide)]
  · rw [decide_eq_false q, if_pos b2f]
/-- behind a unit -/
theorem ex_be {F t : Nat} {a2 : Int32} {f : Nat → Int32} {n l0 : Nat} {D0 : List Op} {base : List Nat} {rel : Bool} {p c R N k : Nat} {De : List Op} {wa : List Nat} {σ μ : St} (hF : 500 ≤ F) (hR2 : R ≤ 12) (hb : baseOk base) (h : ExH f n t l0 D0 base rel p c R 1 k De wa σ μ) (hN : 402 - k ≤ N + 1) (ih0 : ∀ De wa σ μ, k < 400 → ExH f n t l0 D0 base rel p c R 0 (k + 1) De wa σ μ → ExG F t a2 f n l0 D0 base rel p c R N 0 1 2 (k + 1) σ μ) (ih1 : ∀ De wa σ μ, k < 400 → ExH f n t l0 D0 base rel p c R 1 (k + 1) De wa σ μ → ExG F t a2 f n l0 D0 base rel p c R N 1 0 3 (k + 1) σ μ) : ExG F t a2 f n l0 D0 base rel p c R (N + 1) 1 0 3 k σ μ := by
  obtain ⟨P, hR, X, E, ht, hf, T, hE, hk, hl⟩ := id h
  obtain ⟨x1, x2, x3, x4, x5, x6, x7, x8, x9⟩ := id X
  have Tk := T k hk hE
  have l20 := okW_20 x8 x9
  have bl := hb.1
  have hd := P.2.2.2.2.1
  have pl : (wa ++ base).length ≤ 23 := by rw [List.length_append]; omega
  have h25 : ¬ (tkK f n k = 25 ∧ 3 = 0) := fun q => by omega
  obtain ⟨N', rfl⟩ : ∃ N', N = N' + 1 := ⟨N - 1, by omega⟩
  have noE : tkK f n k ≠ 25 → NoE f n (k + 1) := fun q j hj => by
    by_cases e : j = k
    · rw [e]; exact q
    · exact hE j (by omega)
  have is7 := is_is (a := 7) (c := 24) hf ht hk Tk (by omega) rfl
  have is8 := is_is (a := 8) (c := 16) hf ht hk Tk (by omega) rfl
  have is9 := is_is (a := 9) (c := 17) hf ht hk Tk (by omega) rfl
  have is10 := is_is (a := 10) (c := 18) hf ht hk Tk (by omega) rfl
  have hlk : tkK f n k ≠ 23 → 2 < tkK f n k → lack (tkK f n k) (depW wa) R = false := fun q1 q2 => by
    unfold lack
    rw [decide_eq_false (show ¬ tkK f n k ≤ 2 by omega), decide_eq_false q1]
    rfl
  by_cases qc : tkK f n k = 24 ∧ 0 < depW wa
  · -- a ) that closes
    obtain ⟨q24, qd⟩ := qc
    obtain ⟨r, r1, r2, r3⟩ := popB_open x8 qd
    obtain ⟨ν, m1, m2, m3, m4⟩ := out_is (b := 4) (Or.inl ⟨rfl, rfl⟩) X
    rw [r1] at m2
    have E1 := E.pop (b := 4) (by omega)
    rw [r1] at E1
    obtain ⟨n1, n2, n3, n4, n5, n6, n7, n8, n9⟩ := id m2
    rw [List.length_cons] at n2 n6
    have pl4 := popB_len 4 wa
    rw [r1, List.length_cons] at pl4
    have e1 : fX6_expression_L (N' + 1 + 1) 1 0 0 μ = qcall (fX6_next (sI (sI ν 0 34 (nI r.length)) 0 12 (nI (depW r)))) (fun _ σ243 => fX6_expression_L (N' + 1) 1 0 0 σ243) := by
      have n1' : (sI ν 0 34 (nI r.length)).1 0 12 - 1 = nI (depW r) := by
        rw [sI_s, upd_n _ _ (by omega), n1, depW, if_pos rfl, Nat.add_comm 1, nI_m1]
      rw [fX6_expression_L, if_neg (by decide), is7, qcall_s]
      simp only [qlet_e]
      rw [decide_eq_true q24, if_neg b2t, x1, if_neg (nI_nle (by omega) (by omega)), m1, qcall_s, n2, nI_m1, n1']
    unfold ExG
    rw [e1]
    have nx : nxt 3 (tkK f n k) (depW wa) rel = some 3 := by
      unfold nxt nx3
      rw [q24, if_neg (by omega), if_neg (by omega), if_neg (by omega), if_neg (by omega), if_neg (by omega), if_neg (by omega), if_neg (by omega), if_pos rfl]
    have y1 : XM p c μ (sI (sI ν 0 34 (nI r.length)) 0 12 (nI (depW r))) := (m3.trans (XM.s0 p c ν (k := 34) _ (by omega))).trans (XM.s0 p c _ (k := 12) _ (by omega))
    have X1 : PX (sI (sI ν 0 34 (nI r.length)) 0 12 (nI (depW r))) p c (De ++ (popB 4 wa).1.map Op.bin) r := ⟨by rw [sI_s, upd_s], by rw [sI_s, upd_n _ _ (by omega), sI_s, upd_s], by rw [sI_n _ _ _ _ (by omega), sI_n _ _ _ _ (by omega)]; exact n3.2, by rw [sI_s, upd_n _ _ (by omega), sI_s, upd_n _ _ (by omega)]; exact n4, by rw [sI_n _ _ _ _ (by omega), sI_n _ _ _ _ (by omega), sI_n _ _ _ _ (by omega), sI_n _ _ _ _ (by omega)]; exact n5, by omega, n7, r2, by omega⟩
    have t1 : (sI (sI ν 0 34 (nI r.length)) 0 12 (nI (depW r))).1 0 11 = nI k := by rw [sI_s, upd_n _ _ (by omega), sI_s, upd_n _ _ (by omega), m4 11 (by omega) (by omega)]; exact ht
    have f1 : (sI (sI ν 0 34 (nI r.length)) 0 12 (nI (depW r))).1 0 13 = 0 := by rw [sI_s, upd_n _ _ (by omega), sI_s, upd_n _ _ (by omega), m4 13 (by omega) (by omega)]; exact hf
    have o4 : (sI (sI ν 0 34 (nI r.length)) 0 12 (nI (depW r))).1 4 = μ.1 4 := y1.1 4 (by omega) (by omega) (by omega) (by omega)
    generalize sI (sI ν 0 34 (nI r.length)) 0 12 (nI (depW r)) = ω at y1 X1 t1 f1 o4
    by_cases q400 : k = 400
    · subst q400
      have fm : FM (failS ω 400 2) 2 (tkS f n 400) := failS_fm (e := 2) t1 (by omega) (by omega) (by rw [o4]; exact Tk.2.1)
      rw [next_full f1 t1, qcall_s]
      obtain ⟨μ', b1, b2', b3⟩ := ex1_dead (N := N') (v1 := 0) (v2 := 0) fm X1.fail
      obtain ⟨σ', a1, a3, a4⟩ := CL_room (a2 := a2) hF (by omega) hk P hR hR2 nx (Or.inl (by omega)) h25
      exact ⟨μ', b1, (y1.trans (failS_xm p c ω 400 2)).trans b3, Or.inl ⟨2, tkS f n 400, σ', a1, b2', a3, a4⟩⟩
    · rw [next_go t1 (by omega), qcall_s]
      obtain ⟨σ1, PT1, xc1, g1⟩ := CL_go (a2 := a2) hF (by omega) (show k < 400 by omega) P hR hR2 nx (hlk (by omega) (by omega)) h25
      have p1 := popB_one x8
      obtain ⟨pa1, pa2⟩ := popB_app2 (b := 1) (base := base) (w := wa) (by rw [p1, r1]; exact List.cons_ne_nil _ _)
      obtain ⟨σ2, g2, P2, xc2⟩ := take_close PT1 (by omega) q24 (by omega) (r := r ++ base) (by rw [pa2, p1, r1]; rfl)
      rw [pa1, p1] at P2
      rw [g2, qcall_s] at g1
      have xcc := xc1.trans xc2
      have yy : XM p c μ (sI ω 0 11 (nI (k + 1))) := y1.trans (XM.s0 p c ω (k := 11) _ (by omega))
      have HH : ExH f n t l0 D0 base rel p c R 1 (k + 1) (De ++ (popB 4 wa).1.map Op.bin) r σ2 (sI ω 0 11 (nI (k + 1))) := by
        refine ⟨?_, by rw [xcc.2.1 5 (by omega)]; exact hR, X1.s0 (by omega), ⟨r2, by omega, ?_, E1.2.2.2⟩, by rw [sI_s, upd_s], by rw [sI_s, upd_n _ _ (by omega)]; exact f1, yy.tks T, noE (by omega), by omega, ?_⟩
        · rw [← List.append_assoc, show depW r = depW wa - 1 by omega]
          exact P2
        · have := E1.2.2.1
          rw [this, depW, if_pos rfl, List.length_cons]
          congr 1
          have := depW_le r
          omega
        · rw [List.length_append, List.length_map]
          omega
      obtain ⟨μ', z1, z2, z3⟩ := ih1 _ r σ2 _ (by omega) HH
      exact ⟨μ', z1, yy.trans z2, z3.imp (fun q => q.pre g1 xcc) (fun q => q.pre g1 xcc (by omega))⟩
  · have e1 : fX6_expression_L (N' + 1 + 1) 1 0 0 μ = if tkK f n k = 16 ∨ tkK f n k = 17 ∨ tkK f n k = 18 then qcall (fX6_comesOut μ (if tkK f n k = 18 then 1 else 0)) (fun _ σ329 => qix (σ329.1 0 34) 48 (qcall (fX6_next (sI (sI σ329 21 (σ329.1 0 34).toNatClampNeg (μ.1 3 k)) 0 34 ((sI σ329 21 (σ329.1 0 34).toNatClampNeg (μ.1 3 k)).1 0 34 + 1))) (fun _ σ354 => fX6_expression_L (N' + 1) 0 0 1 σ354))) else if depW wa = 0 then qcall (fX6_comesOut μ 0) (fun _ σ301 => some ((0 : Int32), σ301)) else qcall (fX6_comesOut (failS μ k 1) 0) (fun _ σ301 => some ((0 : Int32), σ301)) := by
      rw [fX6_expression_L, if_neg (by decide), is7, qcall_s]
      simp only [qlet_e]
      rw [skip_close qc x1, is8, qcall_s]
      have e10 : (μ.1 3 k = (10 : Int32)) = (tkK f n k = 18) := KR_iff Tk.1 (c' := 18) (by omega)
      have fin : ∀ z : Nat, z = 16 ∨ z = 17 ∨ z = 18 → tkK f n k = z → qix (μ.1 0 11) 403 (if μ.1 3 (μ.1 0 11).toNatClampNeg = 10 then qcall (fX6_comesOut μ 1) (fun _ σ329 => qix (σ329.1 0 34) 48 (qcall (fX6_next (sI (sI σ329 21 (σ329.1 0 34).toNatClampNeg (μ.1 3 (μ.1 0 11).toNatClampNeg)) 0 34 ((sI σ329 21 (σ329.1 0 34).toNatClampNeg (μ.1 3 (μ.1 0 11).toNatClampNeg)).1 0 34 + 1))) (fun _ σ354 => fX6_expression_L (N' + 1) 0 0 1 σ354))) else qcall (fX6_comesOut μ 0) (fun _ σ329 => qix (σ329.1 0 34) 48 (qcall (fX6_next (sI (sI σ329 21 (σ329.1 0 34).toNatClampNeg (μ.1 3 (μ.1 0 11).toNatClampNeg)) 0 34 ((sI σ329 21 (σ329.1 0 34).toNatClampNeg (μ.1 3 (μ.1 0 11).toNatClampNeg)).1 0 34 + 1))) (fun _ σ354 => fX6_expression_L (N' + 1) 0 0 1 σ354)))) = qcall (fX6_comesOut μ (if tkK f n k = 18 then 1 else 0)) (fun _ σ329 => qix (σ329.1 0 34) 48 (qcall (fX6_next (sI (sI σ329 21 (σ329.1 0 34).toNatClampNeg (μ.1 3 k)) 0 34 ((sI σ329 21 (σ329.1 0 34).toNatClampNeg (μ.1 3 k)).1 0 34 + 1))) (fun _ σ354 => fX6_expression_L (N' + 1) 0 0 1 σ354))) := fun z hz hz2 => by
        rw [ht, qix_nI (by omega) (by omega), nI_clamp (by omega)]
        by_cases q18 : tkK f n k = 18
        · rw [if_pos (e10.mpr q18), if_pos q18]
        · rw [if_neg (fun q => q18 (e10.mp q)), if_neg q18]
      by_cases q16 : tkK f n k = 16
      · rw [decide_eq_true q16, if_neg b2t, if_neg (show ¬ (1 : Int32) = 0 by decide), if_pos (Or.inl q16)]
        exact fin 16 (by omega) q16
      · rw [decide_eq_false q16, if_pos b2f, is9, qcall_s]
        by_cases q17 : tkK f n k = 17
        · rw [decide_eq_true q17, if_neg b2t, if_neg (show ¬ (1 : Int32) = 0 by decide), if_pos (Or.inr (Or.inl q17))]
          exact fin 17 (by omega) q17
        · rw [decide_eq_false q17, if_pos b2f, is10, qcall_s]
          by_cases q18 : tkK f n k = 18
          · rw [decide_eq_true q18, if_neg b2t, if_neg (show ¬ (1 : Int32) = 0 by decide), if_pos (Or.inr (Or.inr q18))]
            exact fin 18 (by omega) q18
          · rw [decide_eq_false q18, if_pos b2f, if_neg (show ¬ (tkK f n k = 16 ∨ tkK f n k = 17 ∨ tkK f n k = 18) by omega), if_pos trivial, x1]
            by_cases qd : depW wa = 0
            · rw [qd, if_pos (show nI 0 ≤ 0 by decide), if_pos rfl]
            · rw [if_neg (nI_nle (by omega) (by omega)), if_neg qd, fail_is hf ht hk, qcall_s]
    unfold ExG
    rw [e1]
    by_cases qs : tkK f n k = 16 ∨ tkK f n k = 17 ∨ tkK f n k = 18
    · rw [if_pos qs]
      have hb45 : (bondN (tkK f n k) = 4 ∧ (if tkK f n k = 18 then (1 : Int32) else 0) = 0) ∨ (bondN (tkK f n k) = 5 ∧ (if tkK f n k = 18 then (1 : Int32) else 0) = 1) := by
        rcases qs with q | q | q
        · rw [q]; exact Or.inl ⟨rfl, rfl⟩
        · rw [q]; exact Or.inl ⟨rfl, rfl⟩
        · rw [q]; exact Or.inr ⟨rfl, rfl⟩
      obtain ⟨ν, m1, m2, m3, m4⟩ := out_is hb45 X
      have hbn : 4 ≤ bondN (tkK f n k) ∧ bondN (tkK f n k) ≤ 5 := by omega
      have E1 := E.pop (b := bondN (tkK f n k)) (by omega)
      obtain ⟨k1, k2, k3, k4⟩ := popB_ok (b := bondN (tkK f n k)) (by omega) x8
      have plb := popB_len (bondN (tkK f n k)) wa
      obtain ⟨pa1, pa2⟩ := popB_app (hb.pop hbn.1) wa
      have ek : μ.1 3 k = wR (tkK f n k) := by
        rcases Tk.1 with ⟨z1, z2⟩ | ⟨z1, -⟩
        · exact z2
        · omega
      generalize hrest : (popB (bondN (tkK f n k)) wa).2 = rest at m2 E1 k1 k2 k4 plb pa2
      generalize hpop : (popB (bondN (tkK f n k)) wa).1 = pop at m2 E1 k3 plb pa1
      obtain ⟨n1, n2, n3, n4, n5, n6, n7, n8, n9⟩ := id m2
      have l20r := okW_20 n8 n9
      have w3 : (sI ν 21 rest.length (μ.1 3 k)).1 0 34 = nI rest.length := by rw [sI_n _ _ _ _ (by omega)]; exact n2
      rw [m1, qcall_s, n2, qix_nI (show rest.length < 48 by omega) (by omega), nI_clamp (by omega), w3, nI_1]
      have nx : nxt 3 (tkK f n k) (depW wa) rel = some 2 := by
        unfold nxt nx3
        rw [if_neg (by omega), if_neg (by omega), if_neg (by omega)]
        rcases qs with q | q | q
        · rw [if_pos q]
        · rw [if_neg (by omega), if_pos q]
        · rw [if_neg (by omega), if_neg (by omega), if_pos q]
      have y1 : XM p c μ (sI (sI ν 21 rest.length (μ.1 3 k)) 0 34 (nI (rest.length + 1))) := (m3.trans (XM.s21 p c ν rest.length _)).trans (XM.s0 p c _ (k := 34) _ (by omega))
      have dW : depW (tkK f n k :: rest) = depW wa := by rw [depW, if_neg (by omega), k2]; omega
      have okn : okW (tkK f n k :: rest) := ⟨by omega, Or.inr (by rcases k4 with e | e; rw [e]; show 0 < _; omega; exact e), k1⟩
      have X1 : PX (sI (sI ν 21 rest.length (μ.1 3 k)) 0 34 (nI (rest.length + 1))) p c (De ++ pop.map Op.bin) (tkK f n k :: rest) := by
        refine ⟨?_, by rw [sI_s, upd_s, List.length_cons], ?_, ?_, ?_, ?_, n7, okn, by omega⟩
        · rw [sI_s, upd_n _ _ (by omega), sI_n _ _ _ _ (by omega), n1, dW, k2]
        · rw [sI_n _ _ _ _ (by omega), sI_s, ek]
          have := HasS_push n3 (wR (tkK f n k))
          rw [List.length_map] at this
          exact this
        · rw [sI_s, upd_n _ _ (by omega), sI_n _ _ _ _ (by omega)]; exact n4
        · rw [sI_n _ _ _ _ (by omega), sI_n _ _ _ _ (by omega), sI_n _ _ _ _ (by omega), sI_n _ _ _ _ (by omega)]; exact n5
        · rw [List.length_cons, List.length_append, List.length_map]; omega
      have t1 : (sI (sI ν 21 rest.length (μ.1 3 k)) 0 34 (nI (rest.length + 1))).1 0 11 = nI k := by rw [sI_s, upd_n _ _ (by omega), sI_n _ _ _ _ (by omega), m4 11 (by omega) (by omega)]; exact ht
      have f1 : (sI (sI ν 21 rest.length (μ.1 3 k)) 0 34 (nI (rest.length + 1))).1 0 13 = 0 := by rw [sI_s, upd_n _ _ (by omega), sI_n _ _ _ _ (by omega), m4 13 (by omega) (by omega)]; exact hf
      have o4 : (sI (sI ν 21 rest.length (μ.1 3 k)) 0 34 (nI (rest.length + 1))).1 4 = μ.1 4 := y1.1 4 (by omega) (by omega) (by omega) (by omega)
      generalize sI (sI ν 21 rest.length (μ.1 3 k)) 0 34 (nI (rest.length + 1)) = ω at y1 X1 t1 f1 o4
      by_cases q400 : k = 400
      · subst q400
        have fm : FM (failS ω 400 2) 2 (tkS f n 400) := failS_fm (e := 2) t1 (by omega) (by omega) (by rw [o4]; exact Tk.2.1)
        rw [next_full f1 t1, qcall_s, ex0_dead fm]
        obtain ⟨σ', a1, a3, a4⟩ := CL_room (a2 := a2) hF (by omega) hk P hR hR2 nx (Or.inl (by omega)) h25
        exact ⟨_, rfl, y1.trans (failS_xm p c ω 400 2), Or.inl ⟨2, tkS f n 400, σ', a1, fm, a3, a4⟩⟩
      · rw [next_go t1 (by omega), qcall_s]
        obtain ⟨σ1, PT1, xc1, g1⟩ := CL_go (a2 := a2) hF (by omega) (show k < 400 by omega) P hR hR2 nx (hlk (by omega) (by omega)) h25
        obtain ⟨σ2, g2, P2, xc2⟩ := take_op PT1 (by omega) rfl (by omega) (by rw [pa2, List.length_append]; omega)
        rw [pa1, pa2] at P2
        rw [g2, qcall_s] at g1
        have hrel : (decide (19 ≤ tkK f n k ∧ tkK f n k ≤ 22) || (rel && decide (tkK f n k ≠ 5 ∧ tkK f n k ≠ 4))) = rel := by
          rw [decide_eq_false (by omega), decide_eq_true (by omega), Bool.false_or, Bool.and_true]
        rw [hrel] at P2
        have xcc := xc1.trans xc2
        have yy : XM p c μ (sI ω 0 11 (nI (k + 1))) := y1.trans (XM.s0 p c ω (k := 11) _ (by omega))
        have HH : ExH f n t l0 D0 base rel p c R 0 (k + 1) (De ++ pop.map Op.bin) (tkK f n k :: rest) σ2 (sI ω 0 11 (nI (k + 1))) := by
          refine ⟨?_, by rw [xcc.2.1 5 (by omega)]; exact hR, X1.s0 (by omega), ⟨okn, by omega, ?_, E1.2.2.2⟩, by rw [sI_s, upd_s], by rw [sI_s, upd_n _ _ (by omega)]; exact f1, yy.tks T, noE (by omega), by omega, ?_⟩
          · rw [← List.append_assoc, dW]
            exact P2
          · have := E1.2.2.1
            rw [this, dW, List.length_cons]
            congr 1
            have := depW_le rest
            omega
          · rw [List.length_append, List.length_map, List.length_cons]
            omega
        obtain ⟨μ', z1, z2, z3⟩ := ih0 _ _ σ2 _ (by omega) HH
        exact ⟨μ', z1, yy.trans z2, z3.imp (fun q => q.pre g1 xcc) (fun q => q.pre g1 xcc (by omega))⟩
    · rw [if_neg qs]
      by_cases qd : depW wa = 0
      · rw [if_pos qd]
        obtain ⟨ν, m1, m2, m3, m4⟩ := out_is (b := 4) (Or.inl ⟨rfl, rfl⟩) X
        rw [popB_none x8 qd] at m2
        rw [m1, qcall_s]
        refine ⟨ν, rfl, m3, Or.inr ⟨k, De, wa, σ, rfl, XC.rf t l0 σ, Nat.le_refl _, ?_, hR, m2, E, qd, (m4 11 (by omega) (by omega)).trans ht, (m4 13 (by omega) (by omega)).trans hf, m3.tks T, hE, hk, hl, by omega, by omega, by omega⟩⟩
        rw [qd] at P
        exact P
      · rw [if_neg qd]
        have fm : FM (failS μ k 1) 1 (tkS f n k) := failS_fm (e := 1) ht hk (by omega) Tk.2.1
        obtain ⟨ν, m1, m2, m3, m4⟩ := out_is (b := 4) (Or.inl ⟨rfl, rfl⟩) (X.fail (k := k) (v := 1))
        rw [m1, qcall_s]
        have nx : nxt 3 (tkK f n k) (depW wa) rel = none := by
          unfold nxt nx3
          rw [if_neg (by omega), if_neg (by omega), if_neg (by omega), if_neg (by omega), if_neg (by omega), if_neg (by omega), if_neg qd, if_neg (by omega)]
        obtain ⟨σ', a1, a3, a4⟩ := CL_syn (a2 := a2) hF (by omega) hk P hR hR2 nx h25
        exact ⟨ν, rfl, (failS_xm p c μ k 1).trans m3, Or.inl ⟨1, tkS f n k, σ', a1, fm.keep m4, a3, a4⟩⟩
theorem ex_sim {F t : Nat} {a2 : Int32} {f : Nat → Int32} {n l0 : Nat} {D0 : List Op} {base : List Nat} {rel : Bool} {p c R : Nat} (hF : 500 ≤ F) (hR2 : R ≤ 12) (hb : baseOk base) : ∀ (N : Nat), (∀ k De wa σ μ, 402 - k ≤ N → ExH f n t l0 D0 base rel p c R 0 k De wa σ μ → ExG F t a2 f n l0 D0 base rel p c R N 0 1 2 k σ μ) ∧ (∀ k De wa σ μ, 402 - k ≤ N → ExH f n t l0 D0 base rel p c R 1 k De wa σ μ → ExG F t a2 f n l0 D0 base rel p c R N 1 0 3 k σ μ)
  | 0 => ⟨fun k De wa σ μ h H => absurd H.2.2.2.2.2.2.2.2.1 (by omega), fun k De wa σ μ h H => absurd H.2.2.2.2.2.2.2.2.1 (by omega)⟩
  | N + 1 => by
    obtain ⟨i0, i1⟩ := ex_sim (F := F) (t := t) (a2 := a2) (f := f) (n := n) (l0 := l0) (D0 := D0) (base := base) (rel := rel) (p := p) (c := c) (R := R) hF hR2 hb N
    exact ⟨fun k De wa σ μ h H => ex_at hF hR2 hb H h (fun De wa σ μ hk H2 => i0 (k + 1) De wa σ μ (by omega) H2) (fun De wa σ μ hk H2 => i1 (k + 1) De wa σ μ (by omega) H2), fun k De wa σ μ h H => ex_be hF hR2 hb H h (fun De wa σ μ hk H2 => i0 (k + 1) De wa σ μ (by omega) H2) (fun De wa σ μ hk H2 => i1 (k + 1) De wa σ μ (by omega) H2)⟩
