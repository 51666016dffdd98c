-- ===== a rule from its first token; a text =====
theorem PR.set10 {μ : St} {p R : Nat} {K : Nat → Rule} {rs : List Rel} {c k : Nat} {i0 : Nat} {v : Int32} (h : PR μ p R K rs c k) (hi : 10 ≤ i0 ∧ i0 ≤ 12) : PR (sI μ i0 (12 * p + R) v) p R K rs c k := by
  obtain ⟨⟨t1, t2⟩, h2, h3, h4, h5, h6, h7, h8, h9, h10, h11⟩ := h
  have e : ∀ i, i ≠ i0 → (sI μ i0 (12 * p + R) v).1 i = μ.1 i := fun i h => sI_n _ _ _ _ h
  have g : (∀ i, 14 ≤ i → i ≤ 18 → ∀ k, k < 200 → (sI μ i0 (12 * p + R) v).1 i (200 * p + k) = μ.1 i (200 * p + k)) ∧ ∀ i, 19 ≤ i → i ≤ 20 → ∀ j, j < c → (sI μ i0 (12 * p + R) v).1 i (500 * p + j) = μ.1 i (500 * p + j) := ⟨fun i h1 h2 k _ => by rw [e i (by omega)], fun i h1 h2 j _ => by rw [e i (by omega)]⟩
  have z : ∀ i r, r < R → (sI μ i0 (12 * p + R) v).1 i (12 * p + r) = μ.1 i (12 * p + r) := fun i r hr => by
    by_cases q : i = i0
    · rw [q, sI_s, upd_n _ _ (by omega)]
    · rw [e i q]
  refine ⟨⟨by rw [e 9 (by omega)]; exact t1, fun r hr => ?_⟩, by rw [e 13 (by omega)]; exact h2, RelsO.congr (Nat.le_refl _) (by omega) g h3, by rw [e 0 (by omega)]; exact h4, h5, by rw [e 0 (by omega)]; exact h6, h7, h8, h9, h10, by rw [e 0 (by omega)]; exact h11⟩
  rw [z 10 r hr, z 11 r hr, z 12 r hr]
  obtain ⟨a1, a2, a3, a4, a5⟩ := t2 r hr
  exact ⟨a1, a2, a3, a4, RelsO.congr (Nat.le_refl _) (by omega) g a5⟩
theorem must_go {μ : St} {f : Nat → Int32} {n k c : Nat} {a : Int32} (hf : μ.1 0 13 = 0) (ht : μ.1 0 11 = nI k) (hk : k ≤ 400) (T : TokM f n μ k) (hc : c ≤ 25) (ha : a = nI (rkT.getD c 0)) : fX6_must μ a = if tkK f n k = c then (if k = 400 then some (0, failS μ 400 2) else some (0, sI μ 0 11 (nI (k + 1)))) else some (0, failS μ k 1) := by
  unfold fX6_must
  rw [is_is hf ht hk T hc ha, qcall_s, qlet_e]
  by_cases q : tkK f n k = c
  · rw [decide_eq_true q, if_neg b2t, if_pos q]
    by_cases q4 : k = 400
    · subst q4
      rw [next_full hf ht, qcall_s, if_pos rfl]
    · rw [next_go ht (by omega), qcall_s, if_neg q4]
  · rw [decide_eq_false q, if_pos b2f, if_neg q, fail_is hf ht hk, qcall_s]
theorem rule_sim {F t : Nat} {a2 : Int32} {f : Nat → Int32} {n p R c k : Nat} {K : Nat → Rule} {σ μ : St} (hF : 500 ≤ F) (P : PC σ f n t (offC K R) k [] [] 0 false) (TC : TxC σ t R K) (Q : PR μ p R K [] c k) (ht : μ.1 0 11 = nI k) (hf : μ.1 0 13 = 0) (T : TKs f n μ) (hE : NoE f n k) (h25 : tkK f n k ≠ 25) : ∃ μ', fX6_tellRule μ = some (0, μ') ∧ RK p μ μ' ∧ (FltR t (CL F t a2 0 k σ) σ μ' ∨ ∃ s, s < 3 ∧ R < 12 ∧ RuleB F t a2 f n p R s K (CL F t a2 0 k σ) k σ μ') := by
  have qk := Q.2.2.2.2.2.2.2.1
  have qp := Q.2.2.2.2.1
  have q19 := Q.2.2.2.1
  have q9 := Q.1.1
  have qR := Q.2.2.2.2.2.2.2.2.2.1
  have Tk := T k qk hE
  have h0 : ¬ (tkK f n k = 25 ∧ 0 = 0) := fun q => h25 q.1
  have noE : NoE f n (k + 1) := fun j hj => by
    by_cases e : j = k
    · rw [e]; exact h25
    · exact hE j (by omega)
  have e12 : (12 : Int32) * nI p + nI R = nI (12 * p + R) := by rw [show (12 : Int32) = nI 12 from rfl, pk_mul, nI_add]
  by_cases q2 : tkK f n k ≤ 2
  · have nx : nxt 0 (tkK f n k) 0 false = some 1 := by
      unfold nxt nx0
      rw [if_pos rfl, if_pos q2]
    have esort : μ.1 3 k - 20 = nI (tkK f n k) := by
      rcases Tk.1 with ⟨u1, u2⟩ | ⟨u1, -⟩
      · rw [u2]
        rcases (show tkK f n k = 0 ∨ tkK f n k = 1 ∨ tkK f n k = 2 by omega) with e | e | e <;> (rw [e]; rfl)
      · omega
    have e1 : fX6_tellRule μ = if R = 12 then some (0, failS μ k 2) else qcall (fX6_next (sI μ 10 (12 * p + R) (nI (tkK f n k)))) (fun _ σ99 => qcall (fX6_must σ99 23) (fun _ σ105 => qix (σ105.1 0 19) 12 (fX6_tellRule_L 100000 (nI (12 * p + R)) 1 1 (sI σ105 11 (12 * p + R) (σ105.1 13 (σ105.1 0 19).toNatClampNeg))))) := by
      have body : ∀ x : Option (Int32 × St), x = (qix (nI p) 12 (if nI R = 12 then qcall (fX6_fail μ 2) (fun _ y54 => if (y54.1 0 13) ≤ (0 : Int32) then (qix (y54.1 0 19) 12 (qix (y54.1 0 11) 403 (qix ((12 : Int32) * (y54.1 0 19) + (y54.1 9 (y54.1 0 19).toNatClampNeg)) 144 (qcall (fX6_next (sI y54 10 ((12 : Int32) * (y54.1 0 19) + (y54.1 9 (y54.1 0 19).toNatClampNeg)).toNatClampNeg ((y54.1 3 (y54.1 0 11).toNatClampNeg) - (20 : Int32)))) (fun _ σ99 => qcall (fX6_must σ99 (23 : Int32)) (fun _ σ105 => qix (σ105.1 0 19) 12 (qix ((12 : Int32) * (y54.1 0 19) + (y54.1 9 (y54.1 0 19).toNatClampNeg)) 144 (fX6_tellRule_L 100000 ((12 : Int32) * (y54.1 0 19) + (y54.1 9 (y54.1 0 19).toNatClampNeg)) (1 : Int32) (1 : Int32) (sI σ105 11 ((12 : Int32) * (y54.1 0 19) + (y54.1 9 (y54.1 0 19).toNatClampNeg)).toNatClampNeg (σ105.1 13 (σ105.1 0 19).toNatClampNeg)))))))))) else (some ((0 : Int32), y54))) else (if (μ.1 0 13) ≤ (0 : Int32) then (qix (μ.1 0 19) 12 (qix (μ.1 0 11) 403 (qix ((12 : Int32) * (μ.1 0 19) + (μ.1 9 (μ.1 0 19).toNatClampNeg)) 144 (qcall (fX6_next (sI μ 10 ((12 : Int32) * (μ.1 0 19) + (μ.1 9 (μ.1 0 19).toNatClampNeg)).toNatClampNeg ((μ.1 3 (μ.1 0 11).toNatClampNeg) - (20 : Int32)))) (fun _ σ99 => qcall (fX6_must σ99 (23 : Int32)) (fun _ σ105 => qix (σ105.1 0 19) 12 (qix ((12 : Int32) * (μ.1 0 19) + (μ.1 9 (μ.1 0 19).toNatClampNeg)) 144 (fX6_tellRule_L 100000 ((12 : Int32) * (μ.1 0 19) + (μ.1 9 (μ.1 0 19).toNatClampNeg)) (1 : Int32) (1 : Int32) (sI σ105 11 ((12 : Int32) * (μ.1 0 19) + (μ.1 9 (μ.1 0 19).toNatClampNeg)).toNatClampNeg (σ105.1 13 (σ105.1 0 19).toNatClampNeg)))))))))) else (some ((0 : Int32), μ))))) → x = if R = 12 then some (0, failS μ k 2) else qcall (fX6_next (sI μ 10 (12 * p + R) (nI (tkK f n k)))) (fun _ σ99 => qcall (fX6_must σ99 23) (fun _ σ105 => qix (σ105.1 0 19) 12 (fX6_tellRule_L 100000 (nI (12 * p + R)) 1 1 (sI σ105 11 (12 * p + R) (σ105.1 13 (σ105.1 0 19).toNatClampNeg))))) := fun x hx => by
        rw [hx, qix_nI qp (by omega)]
        by_cases q12 : R = 12
        · have fm : FM (failS μ k 2) 2 (tkS f n k) := failS_fm (e := 2) ht qk (by omega) Tk.2.1
          rw [if_pos (show nI R = 12 by rw [q12]; rfl), if_pos q12, fail_is hf ht qk, qcall_s, if_neg fm.ne.2]
        · have qx : ∀ {β : Type} {b : Option β}, qix (nI (12 * p + R)) 144 b = b := qix_nI (by omega) (by omega)
          rw [if_neg (show ¬ nI R = 12 from fun q => q12 ((nI_eq (b := 12) (by omega) (by omega)).mp q)), if_neg q12]
          simp only [hf, show (0 : Int32) ≤ 0 from by decide, if_true, q19, qix_nI qp (show 12 ≤ 2 ^ 31 by omega), nI_clamp (show p < 2 ^ 31 by omega), q9, e12, ht, qix_nI (show k < 403 by omega) (show 403 ≤ 2 ^ 31 by omega), nI_clamp (show k < 2 ^ 31 by omega), qx, nI_clamp (show 12 * p + R < 2 ^ 31 by omega), esort]
      apply body
      unfold fX6_tellRule
      simp only [qlet_e]
      rw [is_is (a := 20) (c := 0) hf ht qk Tk (by omega) rfl, qcall_s]
      by_cases z0 : tkK f n k = 0
      · rw [decide_eq_true z0, if_neg b2t, q19, nI_clamp (by omega), q9]
      · rw [decide_eq_false z0, if_pos b2f, is_is (a := 21) (c := 1) hf ht qk Tk (by omega) rfl, qcall_s]
        by_cases z1 : tkK f n k = 1
        · rw [decide_eq_true z1, if_neg b2t, q19, nI_clamp (by omega), q9]
        · rw [decide_eq_false z1, if_pos b2f, is_is (a := 22) (c := 2) hf ht qk Tk (by omega) rfl, qcall_s, decide_eq_true (show tkK f n k = 2 by omega), if_neg b2t, q19, nI_clamp (by omega), q9]
    rw [e1]
    by_cases q12 : R = 12
    · rw [if_pos q12]
      have fm : FM (failS μ k 2) 2 (tkS f n k) := failS_fm (e := 2) ht qk (by omega) Tk.2.1
      obtain ⟨σ', a1, a3, a4⟩ := CL_room (a2 := a2) hF (by omega) qk P TC.1 qR nx (Or.inr (by unfold lack; rw [decide_eq_true q2, q12]; rfl)) h0
      exact ⟨_, rfl, (failS_xm p 0 μ k 2).rk, Or.inl ⟨2, tkS f n k, σ', a1, fm, a3, a4.rc⟩⟩
    · rw [if_neg q12]
      have hR12 : R < 12 := by omega
      have Q1 := Q.set10 (i0 := 10) (v := nI (tkK f n k)) (by omega)
      have r1 := RK.set10 p μ (i0 := 10) (R := R) (nI (tkK f n k)) (by omega) hR12
      have t1 : (sI μ 10 (12 * p + R) (nI (tkK f n k))).1 0 11 = nI k := by rw [sI_n _ _ _ _ (by omega)]; exact ht
      have f1 : (sI μ 10 (12 * p + R) (nI (tkK f n k))).1 0 13 = 0 := by rw [sI_n _ _ _ _ (by omega)]; exact hf
      have s1 : (sI μ 10 (12 * p + R) (nI (tkK f n k))).1 10 (12 * p + R) = nI (tkK f n k) := by rw [sI_s, upd_s]
      have T1 := r1.tks T
      generalize sI μ 10 (12 * p + R) (nI (tkK f n k)) = μ1 at Q1 r1 t1 f1 s1 T1
      have Tk1 := T1 k qk hE
      -- behind a fault
      have dead : ∀ (ν : St) (e pl : Nat), FM ν e pl → ν.1 0 19 = nI p → ∃ μ', (qix (ν.1 0 19) 12 (fX6_tellRule_L 100000 (nI (12 * p + R)) 1 1 (sI ν 11 (12 * p + R) (ν.1 13 (ν.1 0 19).toNatClampNeg)))) = some (0, μ') ∧ FM μ' e pl ∧ RK p ν μ' := fun ν e pl fm h19 => by
        have fm2 : FM (sI ν 11 (12 * p + R) (ν.1 13 (ν.1 0 19).toNatClampNeg)) e pl := by
          unfold FM
          rw [sI_n _ _ _ _ (by omega)]
          exact fm
        rw [show qix (ν.1 0 19) 12 = qix (β := Int32 × St) (nI p) 12 by rw [h19], qix_nI qp (by omega)]
        exact ⟨_, tell_dead (N := 99999) fm2, fm2, RK.set10 p ν (i0 := 11) _ (by omega) hR12⟩
      by_cases q400 : k = 400
      · subst q400
        have fm : FM (failS μ1 400 2) 2 (tkS f n 400) := failS_fm (e := 2) t1 (by omega) (by omega) Tk1.2.1
        have x1 := failS_xm p 0 μ1 400 2
        rw [next_full f1 t1, qcall_s, must_dead fm, qcall_s]
        obtain ⟨μ', d1, d2, d3⟩ := dead _ 2 _ fm (by rw [x1.2.1 19 (by omega) (by omega) (by omega) (by omega) (by omega) (by omega)]; exact Q1.2.2.2.1)
        obtain ⟨σ', a1, a3, a4⟩ := CL_room (a2 := a2) hF (by omega) qk P TC.1 qR nx (Or.inl (by omega)) h0
        exact ⟨μ', d1, (r1.trans x1.rk).trans d3, Or.inl ⟨2, tkS f n 400, σ', a1, d2, a3, a4.rc⟩⟩
      · obtain ⟨σ1, PT1, xc1, g1⟩ := CL_go (a2 := a2) hF (by omega) (show k < 400 by omega) P TC.1 qR nx (by unfold lack; rw [decide_eq_false (show ¬ 12 ≤ R by omega), decide_eq_false (show ¬ tkK f n k = 23 by omega)]; simp) h0
        obtain ⟨σ2, g2, P2, TC2, kd2, rc2, rc2'⟩ := take_rule PT1 (TC.xc xc1) (by omega) hR12 rfl q2
        rw [g2, qcall_s] at g1
        have rcc : RC t σ σ2 := xc1.rc.trans ⟨fun i h1 h2 h3 => rc2 i (by omega), rc2'⟩
        have xn : ∀ p c, XM p c μ1 (sI μ1 0 11 (nI (k + 1))) := fun p c => XM.s0 p c μ1 _ (by omega)
        have Q2 := Q1.up xn (k' := k + 1) (by rw [sI_s, upd_n _ _ (by omega)]) (by rw [sI_s, upd_n _ _ (by omega)]) (by omega) (by omega)
        have t2 : (sI μ1 0 11 (nI (k + 1))).1 0 11 = nI (k + 1) := by rw [sI_s, upd_s]
        have f2 : (sI μ1 0 11 (nI (k + 1))).1 0 13 = 0 := by rw [sI_s, upd_n _ _ (by omega)]; exact f1
        have s2 : (sI μ1 0 11 (nI (k + 1))).1 10 (12 * p + R) = nI (tkK f n k) := by rw [sI_n _ _ _ _ (by omega)]; exact s1
        have T2 := (xn 0 0).tks T1
        have r2 := r1.trans (xn p 0).rk
        rw [next_go t1 (by omega), qcall_s]
        generalize sI μ1 0 11 (nI (k + 1)) = μ2 at Q2 t2 f2 s2 T2 r2
        have Tk2 := T2 (k + 1) (by omega) noE
        have h1' : ¬ (tkK f n (k + 1) = 25 ∧ 1 = 0) := fun q => by omega
        rw [must_go (a := 23) (c := 3) f2 t2 (by omega) Tk2 (by omega) rfl]
        by_cases q3 : tkK f n (k + 1) = 3
        · rw [if_pos q3]
          have nx2 : nxt 1 (tkK f n (k + 1)) 0 false = some 2 := by rw [q3]; rfl
          by_cases q399 : k + 1 = 400
          · rw [if_pos q399, qcall_s]
            have t2' : μ2.1 0 11 = nI 400 := by rw [t2, q399]
            have fm : FM (failS μ2 400 2) 2 (tkS f n 400) := failS_fm (e := 2) t2' (by omega) (by omega) (by rw [← q399]; exact Tk2.2.1)
            have x1 := failS_xm p 0 μ2 400 2
            obtain ⟨μ', d1, d2, d3⟩ := dead _ 2 _ fm (by rw [x1.2.1 19 (by omega) (by omega) (by omega) (by omega) (by omega) (by omega)]; exact Q2.2.2.2.1)
            obtain ⟨σ', a1, a3, a4⟩ := CL_room (a2 := a2) hF (by omega) (by omega) P2 TC2.1 qR nx2 (Or.inl (by omega)) h1'
            rw [q399] at a3
            exact ⟨μ', d1, (r2.trans x1.rk).trans d3, Or.inl ⟨2, tkS f n 400, σ', g1.trans a1, d2, a3, rcc.trans a4.rc⟩⟩
          · rw [if_neg q399, qcall_s]
            obtain ⟨σ3, PT3, xc3, g3⟩ := CL_go (a2 := a2) hF (by omega) (show k + 1 < 400 by omega) P2 TC2.1 qR nx2 (by rw [q3]; rfl) h1'
            obtain ⟨g4, P4⟩ := take_if PT3 (by omega) q3
            rw [g4, qcall_s] at g3
            have xn2 : ∀ p c, XM p c μ2 (sI μ2 0 11 (nI (k + 1 + 1))) := fun p c => XM.s0 p c μ2 _ (by omega)
            have Q3 := Q2.up xn2 (k' := k + 1 + 1) (by rw [sI_s, upd_n _ _ (by omega)]) (by rw [sI_s, upd_n _ _ (by omega)]) (by omega) (by omega)
            have t3 : (sI μ2 0 11 (nI (k + 1 + 1))).1 0 11 = nI (k + 1 + 1) := by rw [sI_s, upd_s]
            have f3 : (sI μ2 0 11 (nI (k + 1 + 1))).1 0 13 = 0 := by rw [sI_s, upd_n _ _ (by omega)]; exact f2
            have s3 : (sI μ2 0 11 (nI (k + 1 + 1))).1 10 (12 * p + R) = nI (tkK f n k) := by rw [sI_n _ _ _ _ (by omega)]; exact s2
            have T3 := (xn2 0 0).tks T2
            have r3 := r2.trans (xn2 p 0).rk
            generalize sI μ2 0 11 (nI (k + 1 + 1)) = μ3 at Q3 t3 f3 s3 T3 r3
            rw [Q3.2.2.2.1, qix_nI qp (by omega), nI_clamp (by omega), Q3.2.1]
            have Q4 := Q3.set10 (i0 := 11) (v := nI (offR K R + ([] : List Rel).length)) (by omega)
            have r4 := r3.trans (RK.set10 p μ3 (i0 := 11) (R := R) (nI (offR K R + ([] : List Rel).length)) (by omega) hR12)
            have noE2 : NoE f n (k + 1 + 1) := fun j hj => by
              by_cases e : j = k + 1
              · rw [e]; omega
              · exact noE j (by omega)
            obtain ⟨μ', z1, z2, z3⟩ := tell_sim (F := F) (t := t) (a2 := a2) (f := f) (n := n) (p := p) (R := R) (s := tkK f n k) (K := K) hF hR12 (by omega) 100000 (k + 1 + 1) [] true c σ3 (sI μ3 11 (12 * p + R) (nI (offR K R + ([] : List Rel).length))) trivial (fun _ => rfl) P4 (TC2.xc xc3) (by rw [xc3.1 _ (by omega) (by omega) (by omega) (by omega)]; exact kd2) Q4 (by have := Q.2.2.2.2.2.2.2.2.1; omega) (by rw [sI_n _ _ _ _ (by omega)]; exact s3) (by rw [sI_s, upd_s]; rfl) (by rw [sI_n _ _ _ _ (by omega)]; exact t3) (by rw [sI_n _ _ _ _ (by omega)]; exact f3) (r4.tks T) noE2 (by omega)
            have rca := rcc.trans xc3.rc
            exact ⟨μ', z1, r4.trans z2, z3.imp (fun q => q.pre (g1.trans g3) rca) (fun q => ⟨tkK f n k, by omega, hR12, q.pre (g1.trans g3) rca (by omega)⟩)⟩
        · rw [if_neg q3, qcall_s]
          have fm : FM (failS μ2 (k + 1) 1) 1 (tkS f n (k + 1)) := failS_fm (e := 1) t2 (by omega) (by omega) Tk2.2.1
          have x1 := failS_xm p 0 μ2 (k + 1) 1
          obtain ⟨μ', d1, d2, d3⟩ := dead _ 1 _ fm (by rw [x1.2.1 19 (by omega) (by omega) (by omega) (by omega) (by omega) (by omega)]; exact Q2.2.2.2.1)
          have nx2 : nxt 1 (tkK f n (k + 1)) 0 false = none := by
            unfold nxt nx1
            rw [if_neg (by omega), if_pos rfl, if_neg q3]
          obtain ⟨σ', a1, a3, a4⟩ := CL_syn (a2 := a2) hF (by omega) (by omega) P2 TC2.1 qR nx2 h1'
          exact ⟨μ', d1, (r2.trans x1.rk).trans d3, Or.inl ⟨1, tkS f n (k + 1), σ', g1.trans a1, d2, a3, rcc.trans a4.rc⟩⟩
  · have fm : FM (failS μ k 1) 1 (tkS f n k) := failS_fm (e := 1) ht qk (by omega) Tk.2.1
    have nx : nxt 0 (tkK f n k) 0 false = none := by
      unfold nxt nx0
      rw [if_pos rfl, if_neg q2]
    obtain ⟨σ', a1, a3, a4⟩ := CL_syn (a2 := a2) hF (by omega) qk P TC.1 qR nx h0
    refine ⟨failS μ k 1, ?_, (failS_xm p 0 μ k 1).rk, Or.inl ⟨1, tkS f n k, σ', a1, fm, a3, a4.rc⟩⟩
    unfold fX6_tellRule
    simp only [qlet_e]
    rw [is_is (a := 20) (c := 0) hf ht qk Tk (by omega) rfl, qcall_s, decide_eq_false (by omega), if_pos b2f, is_is (a := 21) (c := 1) hf ht qk Tk (by omega) rfl, qcall_s, decide_eq_false (by omega), if_pos b2f, is_is (a := 22) (c := 2) hf ht qk Tk (by omega) rfl, qcall_s, decide_eq_false (by omega), if_pos b2f, fail_is hf ht qk, qcall_s, if_neg fm.ne.2]
