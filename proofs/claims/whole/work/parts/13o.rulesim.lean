-- ===== a rule: both at once =====
theorem popB_app3 {b : Nat} {base : List Nat} : ∀ {w : List Nat}, (popB b w).2 = [] → (popB b (w ++ base)).1 = (popB b w).1 ++ (popB b base).1 ∧ (popB b (w ++ base)).2 = (popB b base).2
  | [], _ => ⟨rfl, rfl⟩
  | x :: r, h => by
    rw [List.cons_append, popB, popB]
    rw [popB] at h
    by_cases q : b ≤ bondN x
    · rw [if_pos q] at h ⊢
      rw [if_pos q]
      obtain ⟨h1, h2⟩ := popB_app3 (base := base) (w := r) h
      exact ⟨by show x :: _ = x :: _ ++ _; rw [h1]; rfl, h2⟩
    · rw [if_neg q] at h
      cases h
theorem cc_pop {rs : List Rel} {r : Rel} {De : List Op} {wa : List Nat} (hok : okRs rs) (hr : okRel r) (hR : Rel.R r = De ++ (popB 4 wa).1.map Op.bin) (hw : okW wa) (hd : depW wa = 0) : ((cc rs (Rel.o r)).1 ++ (Rel.L r ++ De) ++ (popB 1 (wa ++ (Rel.k r :: (cc rs (Rel.o r)).2))).1.map Op.bin = (cc (r :: rs) true).1 ∧ (popB 1 (wa ++ (Rel.k r :: (cc rs (Rel.o r)).2))).2 = []) ∧ ((cc rs (Rel.o r)).1 ++ (Rel.L r ++ De) ++ (popB 2 (wa ++ (Rel.k r :: (cc rs (Rel.o r)).2))).1.map Op.bin = (cc (r :: rs) false).1 ∧ 5 :: (popB 2 (wa ++ (Rel.k r :: (cc rs (Rel.o r)).2))).2 = (cc (r :: rs) false).2) := by
  have n4 := popB_none hw hd
  have e1 := popB_any (b := 1) (by omega) (by omega) hw
  have e2 := popB_any (b := 2) (by omega) (by omega) hw
  have bk : bondN (Rel.k r) = 3 := by
    have h1 := hr.2.2.1
    have h2 := hr.2.2.2
    rcases (show Rel.k r = 19 ∨ Rel.k r = 20 ∨ Rel.k r = 21 ∨ Rel.k r = 22 by omega) with e | e | e | e <;> (rw [e]; rfl)
  obtain ⟨a1, a2⟩ := popB_app3 (b := 1) (base := Rel.k r :: (cc rs (Rel.o r)).2) (w := wa) (by rw [e1]; exact n4)
  obtain ⟨b1, b2'⟩ := popB_app3 (b := 2) (base := Rel.k r :: (cc rs (Rel.o r)).2) (w := wa) (by rw [e2]; exact n4)
  have c1 : popB 1 (Rel.k r :: (cc rs (Rel.o r)).2) = (Rel.k r :: (cc rs (Rel.o r)).2, []) := by
    rw [popB, if_pos (by omega)]
    rcases ccw hok (Rel.o r) with e | e | e | e <;> (rw [e]; rfl)
  have c2 : popB 2 (Rel.k r :: (cc rs (Rel.o r)).2) = (Rel.k r :: (cc rs (Rel.o r)).2.filter (fun x => x == 5), (cc rs (Rel.o r)).2.filter (fun x => !(x == 5))) := by
    rw [popB, if_pos (by omega)]
    rcases ccw hok (Rel.o r) with e | e | e | e <;> (rw [e]; rfl)
  rw [a1, a2, b1, b2', c1, c2, e1, e2]
  refine ⟨⟨?_, rfl⟩, ⟨?_, ?_⟩⟩
  · rw [cc, if_pos rfl, hR]
    simp only [List.map_append, List.map_cons, List.append_assoc]
  · rw [cc, if_neg (by decide), hR]
    simp only [List.map_append, List.map_cons, List.append_assoc]
  · rw [cc, if_neg (by decide)]
def RC (t : Nat) (σ σ' : St) : Prop := (∀ i, i ≠ 34 → i ≠ 35 → ¬ (61 + 5 * t ≤ i ∧ i ≤ 61 + 5 * t + 3) → σ'.1 i = σ.1 i) ∧ σ'.2 = σ.2
theorem RC.rf (t : Nat) (σ : St) : RC t σ σ := ⟨fun _ _ _ _ => rfl, rfl⟩
theorem RC.trans {t : Nat} {a b c : St} (h : RC t a b) (g : RC t b c) : RC t a c := ⟨fun i h1 h2 h3 => (g.1 i h1 h2 h3).trans (h.1 i h1 h2 h3), g.2.trans h.2⟩
theorem XC.rc {t l0 : Nat} {σ σ' : St} (h : XC t l0 σ σ') : RC t σ σ' := ⟨fun i h1 h2 h3 => h.1 i h1 h2 (by omega) (by omega), h.2.2.2.2⟩
def FltR (t : Nat) (X : Option (Int32 × St)) (σ μ' : St) : Prop := ∃ e pl σ', X = some (nI e, σ') ∧ FM μ' e pl ∧ σ'.1 34 9 = nI pl ∧ RC t σ σ'
theorem FltR.pre {t : Nat} {X Y : Option (Int32 × St)} {σ σ1 μ' : St} (h : FltR t Y σ1 μ') (e : X = Y) (x : RC t σ σ1) : FltR t X σ μ' := by
  obtain ⟨a, b, c, h1, h2, h3, h4⟩ := h
  exact ⟨a, b, c, e.trans h1, h2, h3, x.trans h4⟩
theorem must_dead {μ : St} {e pl : Nat} {a : Int32} (h : FM μ e pl) : fX6_must μ a = some (0, μ) := by
  unfold fX6_must
  rw [is_no h.ne.1, qcall_s, qlet_e, if_pos rfl, fail_no h, qcall_s]
theorem tell_dead {μ : St} {e pl N : Nat} {v1 v2 v3 : Int32} (h : FM μ e pl) : fX6_tellRule_L (N + 1) v1 v2 v3 μ = some (0, μ) := by
  rw [fX6_tellRule_L]
  simp only [qlet_e]
  rw [must_dead h, qcall_s, if_neg h.ne.2]
  by_cases q : v3 = 0
  · rw [if_pos q]
  · rw [if_neg q, if_neg h.ne.1]
/-- a rule is told, whole -/
def RuleB (F t : Nat) (a2 : Int32) (f : Nat → Int32) (n p R s : Nat) (K : Nat → Rule) (X : Option (Int32 × St)) (k : Nat) (σ μ' : St) : Prop := ∃ k' rs' c' σ', X = CL F t a2 0 k' σ' ∧ RC t σ σ' ∧ k < k' ∧ PC σ' f n t (offC (addK K R (s, rs')) (R + 1)) k' [] [] 0 false ∧ TxC σ' t (R + 1) (addK K R (s, rs')) ∧ okRs rs' ∧ rs' ≠ [] ∧ PR μ' p (R + 1) (addK K R (s, rs')) [] c' k' ∧ μ'.1 0 11 = nI k' ∧ μ'.1 0 13 = 0 ∧ TKs f n μ' ∧ NoE f n k'
theorem RuleB.pre {F t : Nat} {a2 : Int32} {f : Nat → Int32} {n p R s : Nat} {K : Nat → Rule} {X Y : Option (Int32 × St)} {k k1 : Nat} {σ σ1 μ' : St} (h : RuleB F t a2 f n p R s K Y k1 σ1 μ') (e : X = Y) (x : RC t σ σ1) (hk : k ≤ k1) : RuleB F t a2 f n p R s K X k σ μ' := by
  obtain ⟨k', rs', c', σ', h1, h2, h3, h4⟩ := h
  exact ⟨k', rs', c', σ', e.trans h1, x.trans h2, by omega, h4⟩
theorem PR.up {μ μ' : St} {p R : Nat} {K : Nat → Rule} {rs : List Rel} {c k k' : Nat} (h : PR μ p R K rs c k) (x : ∀ p c, XM p c μ μ') (h30 : μ'.1 0 30 = μ.1 0 30) (h12 : μ'.1 0 12 = μ.1 0 12) (hk : k ≤ k') (hk4 : k' ≤ 400) : PR μ' p R K rs c k' := h.xm (x p c) (Nat.le_refl _) (h30.trans h.2.2.2.2.2.1) (h12.trans h.2.2.2.2.2.2.2.2.2.2) hk hk4 (by have := h.2.2.2.2.2.2.1; omega)
theorem tell_sim {F t : Nat} {a2 : Int32} {f : Nat → Int32} {n p R s : Nat} {K : Nat → Rule} (hF : 500 ≤ F) (hR12 : R < 12) (hs : s < 3) : ∀ (N k : Nat) (rs : List Rel) (o : Bool) (c : Nat) (σ μ : St), okRs rs → (rs = [] → o = true) → PC σ f n t (offC K R) k (cc rs o).1 (cc rs o).2 0 false → TxC σ t R K → σ.1 (61 + 5 * t + 1) R = nI s → PR μ p R K rs c k → 2 * (offR K R + rs.length) + 2 ≤ k → μ.1 10 (12 * p + R) = nI s → μ.1 11 (12 * p + R) = nI (offR K R) → μ.1 0 11 = nI k → μ.1 0 13 = 0 → TKs f n μ → NoE f n k → 403 - k ≤ N → ∃ μ', fX6_tellRule_L N (nI (12 * p + R)) (b2 o) 1 μ = some (0, μ') ∧ RK p μ μ' ∧ (FltR t (CL F t a2 2 k σ) σ μ' ∨ RuleB F t a2 f n p R s K (CL F t a2 2 k σ) k σ μ')
  | 0, k, rs, o, c, σ, μ, _, _, _, _, _, Q, _, _, _, _, _, _, _, hN => absurd Q.2.2.2.2.2.2.2.1 (by omega)
  | N + 1, k, rs, o, c, σ, μ, hok, ho, P, TC, hkd, Q, h2k, h10, h11, ht, hf, T, hE, hN => by
    have qk := Q.2.2.2.2.2.2.2.1
    have qp := Q.2.2.2.2.1
    obtain ⟨N', rfl⟩ : ∃ N', N = N' + 1 := ⟨N - 1, by omega⟩
    obtain ⟨μ1, e1, rk1, k10, c1⟩ := rel_sim (a2 := a2) hF hok P TC.1 Q h2k ht hf T hE
    have e0 : fX6_tellRule_L (N' + 1 + 1) (nI (12 * p + R)) (b2 o) 1 μ = qcall (fX6_is μ1 24) (fun r146 σ146 => if r146 = 0 then (qcall (fX6_is σ146 25) (fun r157 σ157 => if r157 = 0 then fX6_tellRule_L (N' + 1) (nI (12 * p + R)) r146 0 σ157 else qcall (fX6_next σ157) (fun _ σ174 => fX6_tellRule_L (N' + 1) (nI (12 * p + R)) r146 1 σ174))) else qcall (fX6_next σ146) (fun _ σ174 => fX6_tellRule_L (N' + 1) (nI (12 * p + R)) r146 1 σ174)) := by
      rw [fX6_tellRule_L]
      simp only [qlet_e]
      rw [if_neg (show ¬ (1 : Int32) = 0 by decide), hf, if_pos rfl, e1, qcall_s]
      simp only [if_true, show ¬ (1 : Int32) = 0 from by decide, if_false]
    rw [e0]
    rcases c1 with ⟨e, pl, σ', g1, fm, g3, g4⟩ | B
    · rw [is_no fm.ne.1, qcall_s, if_pos rfl, is_no fm.ne.1, qcall_s, if_pos rfl, tell_dead fm]
      exact ⟨μ1, rfl, rk1, Or.inl ⟨e, pl, σ', g1, fm, g3, g4.rc⟩⟩
    · obtain ⟨k1, r, De, wa, c1', σ1, B1, B2, B3, B4, B5, B6, B7, B8, B9, B10, B11, B12, B13, B14, B15, B16, B17, B18⟩ := B
      have k1k := B11.2.2.2.2.2.2.2.1
      have Tk := B14 k1 k1k B15
      have TC1 := TC.xc B2
      have hkd1 : σ1.1 (61 + 5 * t + 1) R = nI s := by rw [B2.1 _ (by omega) (by omega) (by omega) (by omega)]; exact hkd
      have h10' : μ1.1 10 (12 * p + R) = nI s := by rw [k10 10 (by omega) (by omega)]; exact h10
      have h11' : μ1.1 11 (12 * p + R) = nI (offR K R) := by rw [k10 11 (by omega) (by omega)]; exact h11
      have h25 : ¬ (tkK f n k1 = 25 ∧ 3 = 0) := fun q => by omega
      have ok1 : okRs (r :: rs) := ⟨B6, fun q => by rw [B5]; exact ho q, hok⟩
      have cp := cc_pop hok B6 B7 B8 B9
      rw [B5] at cp
      have l2 : (cc rs o).2.length ≤ 2 := by rcases ccw hok o with e | e | e | e <;> (rw [e]; decide)
      have cnt : 2 * (offR K R + (r :: rs).length) + 1 ≤ k1 := by rw [List.length_cons]; omega
      have wl := (popB_len 4 wa)
      have hlk : 2 < tkK f n k1 → tkK f n k1 ≠ 23 → lack (tkK f n k1) 0 R = false := fun q1 q2 => by
        unfold lack
        rw [decide_eq_false (show ¬ tkK f n k1 ≤ 2 by omega), decide_eq_false q2]
        rfl
      have noE : tkK f n k1 ≠ 25 → NoE f n (k1 + 1) := fun q j hj => by
        by_cases e : j = k1
        · rw [e]; exact q
        · exact B15 j (by omega)
      rw [is_is (a := 24) (c := 4) B13 B12 k1k Tk (by omega) rfl, qcall_s]
      -- and, or
      have more : ∀ (o' : Bool) (kd : Nat), (kd = 4 ∧ o' = true) ∨ (kd = 5 ∧ o' = false) → tkK f n k1 = kd → ∃ μ', (qcall (fX6_next μ1) (fun _ σ174 => fX6_tellRule_L (N' + 1) (nI (12 * p + R)) (b2 o') 1 σ174)) = some (0, μ') ∧ RK p μ μ' ∧ (FltR t (CL F t a2 2 k σ) σ μ' ∨ RuleB F t a2 f n p R s K (CL F t a2 2 k σ) k σ μ') := fun o' kd hkd' hk' => by
        have nx : nxt 3 (tkK f n k1) 0 true = some 2 := by
          rw [hk']
          rcases hkd' with ⟨rfl, -⟩ | ⟨rfl, -⟩ <;> rfl
        by_cases q400 : k1 = 400
        · subst q400
          have fm : FM (failS μ1 400 2) 2 (tkS f n 400) := failS_fm (e := 2) B12 (by omega) (by omega) Tk.2.1
          rw [next_full B13 B12, qcall_s, tell_dead fm]
          obtain ⟨σ', a1, a3, a4⟩ := CL_room (a2 := a2) hF (by omega) k1k B4 B10 (by omega) nx (Or.inl (by omega)) h25
          exact ⟨_, rfl, rk1.trans (failS_xm p 0 μ1 400 2).rk, Or.inl ⟨2, tkS f n 400, σ', B1.trans a1, fm, a3, (B2.trans a4).rc⟩⟩
        · obtain ⟨σ2, PT2, xc2, g2⟩ := CL_go (a2 := a2) hF (by omega) (show k1 < 400 by omega) B4 B10 (by omega) nx (hlk (by omega) (by omega)) h25
          have hpl : (popB (bondN kd) (wa ++ (Rel.k r :: (cc rs o).2))).2.length < 30 := by
            have := popB_len (bondN kd) (wa ++ (Rel.k r :: (cc rs o).2))
            have w3 := okW_3 B8
            rw [List.length_append, List.length_cons] at this
            omega
          obtain ⟨σ3, g3, P3, xc3⟩ := take_op PT2 (by omega) hk' (by omega) hpl
          rw [g3, qcall_s] at g2
          have PN : PC σ3 f n t (offC K R) (k1 + 1) (cc (r :: rs) o').1 (cc (r :: rs) o').2 0 false := by
            rcases hkd' with ⟨rfl, rfl⟩ | ⟨rfl, rfl⟩
            · rw [show bondN 4 = 1 from rfl, cp.1.1, cp.1.2] at P3
              exact P3
            · rw [show bondN 5 = 2 from rfl, cp.2.1, cp.2.2] at P3
              exact P3
          have xcc := (B2.trans xc2).trans xc3
          have xn : ∀ p c, XM p c μ1 (sI μ1 0 11 (nI (k1 + 1))) := fun p c => XM.s0 p c μ1 _ (by omega)
          rw [next_go B12 (by omega), qcall_s]
          obtain ⟨μ', r1, r2, r3⟩ := tell_sim (F := F) (a2 := a2) hF hR12 hs (N' + 1) (k1 + 1) (r :: rs) o' c1' σ3 (sI μ1 0 11 (nI (k1 + 1))) ok1 (fun q => by cases q) PN (TC.xc xcc) (by rw [xcc.1 _ (by omega) (by omega) (by omega) (by omega)]; exact hkd) (B11.up xn (by rw [sI_s, upd_n _ _ (by omega)]) (by rw [sI_s, upd_n _ _ (by omega)]) (by omega) (by omega)) (by omega) (by rw [sI_n _ _ _ _ (by omega)]; exact h10') (by rw [sI_n _ _ _ _ (by omega)]; exact h11') (by rw [sI_s, upd_s]) (by rw [sI_s, upd_n _ _ (by omega)]; exact B13) ((xn 0 0).tks B14) (noE (by omega)) (by omega)
          exact ⟨μ', r1, (rk1.trans (xn p 0).rk).trans r2, r3.imp (fun q => q.pre (B1.trans g2) xcc.rc) (fun q => q.pre (B1.trans g2) xcc.rc (by omega))⟩
      by_cases q4 : tkK f n k1 = 4
      · rw [decide_eq_true q4, if_neg b2t]
        exact more true 4 (Or.inl ⟨rfl, rfl⟩) q4
      · rw [decide_eq_false q4, if_pos b2f, is_is (a := 25) (c := 5) B13 B12 k1k Tk (by omega) rfl, qcall_s]
        by_cases q5 : tkK f n k1 = 5
        · rw [decide_eq_true q5, if_neg b2t]
          exact more false 5 (Or.inr ⟨rfl, rfl⟩) q5
        · rw [decide_eq_false q5, if_pos b2f, fX6_tellRule_L]
          simp only [qlet_e]
          rw [if_pos trivial]
          unfold fX6_must
          rw [is_is (a := 4) (c := 15) B13 B12 k1k Tk (by omega) rfl, qcall_s, qlet_e]
          by_cases q15 : tkK f n k1 = 15
          · rw [decide_eq_true q15, if_neg b2t]
            have nx : nxt 3 (tkK f n k1) 0 true = some 0 := by rw [q15]; rfl
            by_cases q400 : k1 = 400
            · subst q400
              have fm : FM (failS μ1 400 2) 2 (tkS f n 400) := failS_fm (e := 2) B12 (by omega) (by omega) Tk.2.1
              rw [next_full B13 B12, qcall_s, qcall_s, if_neg fm.ne.2]
              obtain ⟨σ', a1, a3, a4⟩ := CL_room (a2 := a2) hF (by omega) k1k B4 B10 (by omega) nx (Or.inl (by omega)) h25
              exact ⟨_, rfl, rk1.trans (failS_xm p 0 μ1 400 2).rk, Or.inl ⟨2, tkS f n 400, σ', B1.trans a1, fm, a3, (B2.trans a4).rc⟩⟩
            · obtain ⟨σ2, PT2, xc2, g2⟩ := CL_go (a2 := a2) hF (by omega) (show k1 < 400 by omega) B4 B10 (by omega) nx (hlk (by omega) (by omega)) h25
              obtain ⟨σ3, g3, P3, TC3, rc3, rc3'⟩ := take_semi (s := s) (rs := r :: rs) PT2 (TC1.xc xc2) (by rw [xc2.1 _ (by omega) (by omega) (by omega) (by omega)]; exact hkd1) (by omega) hR12 q15 cp.1.1 cp.1.2
              rw [g3, qcall_s] at g2
              have xn : ∀ p c, XM p c μ1 (sI μ1 0 11 (nI (k1 + 1))) := fun p c => XM.s0 p c μ1 _ (by omega)
              have Q2 := B11.up xn (k' := k1 + 1) (by rw [sI_s, upd_n _ _ (by omega)]) (by rw [sI_s, upd_n _ _ (by omega)]) (by omega) (by omega)
              have m10 : (sI μ1 0 11 (nI (k1 + 1))).1 10 (12 * p + R) = nI s := by rw [sI_n _ _ _ _ (by omega)]; exact h10'
              have m11 : (sI μ1 0 11 (nI (k1 + 1))).1 11 (12 * p + R) = nI (offR K R) := by rw [sI_n _ _ _ _ (by omega)]; exact h11'
              have m0 : (sI μ1 0 11 (nI (k1 + 1))).1 0 11 = nI (k1 + 1) := by rw [sI_s, upd_s]
              have m13 : (sI μ1 0 11 (nI (k1 + 1))).1 0 13 = 0 := by rw [sI_s, upd_n _ _ (by omega)]; exact B13
              have mr := rk1.trans (xn p 0).rk
              have mT := (xn 0 0).tks B14
              rw [next_go B12 (by omega), qcall_s, qcall_s]
              generalize sI μ1 0 11 (nI (k1 + 1)) = μ2 at Q2 m10 m11 m0 m13 mr mT
              obtain ⟨w1, w2, w3, w4, w5, w6, w7, w8, w9, w10, w12⟩ := Q2
              have u19 : (sI μ2 12 (12 * p + R) (nI (offR K R + (r :: rs).length))).1 0 19 = nI p := by rw [sI_n _ _ _ _ (by omega)]; exact w4
              have u9 : (sI μ2 12 (12 * p + R) (nI (offR K R + (r :: rs).length))).1 9 p = nI R := by rw [sI_n _ _ _ _ (by omega)]; exact w1.1
              rw [m13, if_pos (show (0 : Int32) ≤ 0 by decide), w4, qix_nI w5 (by omega), qix_nI (show 12 * p + R < 144 by omega) (by omega), nI_clamp (show 12 * p + R < 2 ^ 31 by omega), nI_clamp (show p < 2 ^ 31 by omega), w2, u19, qix_nI w5 (by omega), qix_nI w5 (by omega), nI_clamp (show p < 2 ^ 31 by omega), u9, nI_1]
              have rkk := (mr.trans (RK.set10 p μ2 (i0 := 12) (nI (offR K R + (r :: rs).length)) (by omega) hR12)).trans (RK.set9 p _ (nI (R + 1)))
              generalize hω : sI (sI μ2 12 (12 * p + R) (nI (offR K R + (r :: rs).length))) 9 p (nI (R + 1)) = ω at rkk
              have v1 : ∀ i, i ≠ 9 → i ≠ 12 → ω.1 i = μ2.1 i := fun i h1 h2 => by rw [← hω, sI_n _ _ _ _ h1, sI_n _ _ _ _ h2]
              have v9 : ω.1 9 p = nI (R + 1) := by rw [← hω, sI_s, upd_s]
              have v12 : ω.1 12 = upd (μ2.1 12) (12 * p + R) (nI (offR K R + (r :: rs).length)) := by rw [← hω, sI_n _ _ _ _ (by omega), sI_s]
              have oR1 : offR (addK K R (s, r :: rs)) (R + 1) = offR K R + (r :: rs).length := by rw [offR, offR_add _ _ _ (Nat.le_refl _), addK_s]
              have gg : (∀ i, 14 ≤ i → i ≤ 18 → ∀ k, k < 200 → ω.1 i (200 * p + k) = μ2.1 i (200 * p + k)) ∧ ∀ i, 19 ≤ i → i ≤ 20 → ∀ j, j < c1' → ω.1 i (500 * p + j) = μ2.1 i (500 * p + j) := ⟨fun i h1 h2 k _ => by rw [v1 i (by omega) (by omega)], fun i h1 h2 j _ => by rw [v1 i (by omega) (by omega)]⟩
              have QN : PR ω p (R + 1) (addK K R (s, r :: rs)) [] c1' (k1 + 1) := by
                refine ⟨⟨v9, fun i hi => ?_⟩, ?_, trivial, by rw [v1 0 (by omega) (by omega)]; exact w4, w5, by rw [v1 0 (by omega) (by omega)]; exact w6, w7, w8, ?_, by omega, by rw [v1 0 (by omega) (by omega)]; exact w12⟩
                · rw [v1 10 (by omega) (by omega), v1 11 (by omega) (by omega), v12]
                  by_cases q : i = R
                  · subst q
                    rw [addK_s, upd_s, oR1, offR_add _ _ _ (Nat.le_refl _)]
                    exact ⟨m10, m11, rfl, by omega, RelsO.congr (Nat.le_refl _) (by omega) gg w3⟩
                  · rw [addK_n _ _ q, upd_n _ _ (by omega), offR_add _ _ _ (by omega), offR_add _ _ _ (by omega)]
                    obtain ⟨z1, z2, z3, z4, z5⟩ := w1.2 i (by omega)
                    exact ⟨z1, z2, z3, z4, RelsO.congr (Nat.le_refl _) (by omega) gg z5⟩
                · rw [v1 13 (by omega) (by omega), w2, oR1]
                  rfl
                · rw [oR1]
                  show 2 * (offR K R + (r :: rs).length + 0) ≤ k1 + 1
                  omega
              refine ⟨ω, rfl, rkk, Or.inr ⟨k1 + 1, r :: rs, c1', σ3, B1.trans g2, (B2.rc.trans xc2.rc).trans ⟨rc3, rc3'⟩, by omega, P3, TC3, ok1, fun q => (by cases q), QN, by rw [v1 0 (by omega) (by omega)]; exact m0, by rw [v1 0 (by omega) (by omega)]; exact m13, rkk.tks T, noE (by omega)⟩⟩
          · rw [decide_eq_false q15, if_pos b2f, fail_is B13 B12 k1k, qcall_s, qcall_s]
            have fm : FM (failS μ1 k1 1) 1 (tkS f n k1) := failS_fm (e := 1) B12 k1k (by omega) Tk.2.1
            rw [if_neg fm.ne.2]
            have nx : nxt 3 (tkK f n k1) 0 true = none := by
              unfold nxt nx3
              rw [if_neg (by omega), if_neg (by omega), if_neg (by omega), if_neg B16, if_neg B17, if_neg B18, if_pos rfl, if_neg (by decide), if_neg q15, if_neg q5, if_neg q4]
            obtain ⟨σ', a1, a3, a4⟩ := CL_syn (a2 := a2) hF (by omega) k1k B4 B10 (by omega) nx h25
            exact ⟨_, rfl, rk1.trans (failS_xm p 0 μ1 k1 1).rk, Or.inl ⟨1, tkS f n k1, σ', B1.trans a1, fm, a3, (B2.trans a4).rc⟩⟩
