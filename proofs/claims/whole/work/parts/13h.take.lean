-- ===== the class takes a token, kind by kind =====
theorem tkV_is {f : Nat → Int32} {n k : Nat} (h : tkK f n k = 14) : ∃ v, v < 10000 ∧ tkV f n k = nI v := by
  have t := tk_is f n k
  unfold tkV
  have tP : tkP f n (k + 1) = (lexK f n (tkS f n k)).2 := rfl
  rw [tP]
  unfold tkK at h
  generalize tkS f n k = i at h t
  unfold lexK at h ⊢
  by_cases h1 : n ≤ i
  · rw [if_pos h1] at h
    exact absurd h (show ¬ 25 = 14 by omega)
  · rw [if_neg h1] at h ⊢
    by_cases h2 : isL (f i) = true
    · rw [if_pos h2] at h
      have h : fstK (isW f i (upQ isL f n i)) 14 0 = 14 := h
      have := fstK_rng (P := isW f i (upQ isL f n i)) (j := 14) (k := 0) rfl
      omega
    · rw [if_neg h2] at h ⊢
      by_cases h3 : isD (f i) = true
      · rw [if_pos h3] at h ⊢
        have u := upQ_is (p := isD) (f := f) (show i ≤ n by omega)
        have h : (if upQ isD f n i - i ≤ 4 then 14 else 26) = 14 := h
        by_cases q : upQ isD f n i - i ≤ 4
        · obtain ⟨v, v1, v2⟩ := digS_is (f := f) (i := i) (m := upQ isD f n i - i) (fun x hx => u.2.2.1 (i + x) (by omega) (by omega)) q
          refine ⟨v, ?_, v1⟩
          have : 10 ^ (upQ isD f n i - i) ≤ 10 ^ 4 := Nat.pow_le_pow_right (by omega) q
          omega
        · rw [if_neg q] at h
          exact absurd h (by decide)
      · rw [if_neg h3] at h ⊢
        exfalso
        by_cases h4 : twoQ f n i = true
        · rw [if_pos h4] at h
          have h : pairK (f i) = 14 := h
          unfold pairK at h
          revert h
          repeat' split
          all_goals decide
        · rw [if_neg h4] at h
          have h : signK (f i) = 14 := h
          unfold signK at h
          revert h
          repeat' split
          all_goals decide
theorem PT.pc {σ σ' : St} {f : Nat → Int32} {n t l0 k : Nat} {D D' : List Op} {W W' : List Nat} {d d' : Nat} {rel rel' : Bool} (P : PT σ f n t l0 k D W d rel) (h1 : XC t l0 σ σ') (h4 : σ'.1 34 4 = σ.1 34 4) (h7 : σ'.1 34 7 = nI d') (hd : d' ≤ 6) (h8 : σ'.1 34 8 = b2 rel') (Q : PD σ' t l0 D' W' (k + 1)) : PC σ' f n t l0 (k + 1) D' W' d' rel' := by
  obtain ⟨t1, t2, t3, t4, t5, t6, t7, t8, t9, t10⟩ := P
  exact ⟨by rw [h1.1 1 (by omega) (by omega) (by omega) (by omega)]; exact t1, ⟨by rw [h1.2.2.2.1 3 rfl]; exact t2.1, t2.2⟩, by rw [h4]; exact t3, h7, hd, h8, Q⟩
theorem PD.up {σ : St} {t l0 : Nat} {D : List Op} {W : List Nat} {k k' : Nat} (P : PD σ t l0 D W k) (h : k ≤ k') (h2 : k' ≤ 401) : PD σ t l0 D W k' := by
  obtain ⟨p1, p2, p3, p4, p5, p6, p7, p8⟩ := P
  exact ⟨p1, p2, p3, p4, by omega, h2, p7, p8⟩
theorem PD.s34 {σ : St} {t l0 : Nat} {D : List Op} {W : List Nat} {k i : Nat} {v : Int32} (P : PD σ t l0 D W k) (hi : i ≠ 1) : PD (sI σ 34 i v) t l0 D W k := by
  obtain ⟨p1, p2, p3, p4, p5, p6, p7, p8⟩ := P
  exact ⟨by rw [sI_n _ _ _ _ (by omega)]; exact p1, by rw [sI_n _ _ _ _ (by omega)]; exact p2, by rw [sI_s, upd_n _ _ (by omega)]; exact p3, by rw [sI_n _ _ _ _ (by omega)]; exact p4, p5, p6, p7, p8⟩
section
variable {σ : St} {f : Nat → Int32} {n t l0 k : Nat} {D : List Op} {W : List Nat} {d : Nat} {rel : Bool}
theorem take_int (P : PT σ f n t l0 k D W d rel) (hk : k < 400) (h : tkK f n k = 14) : ∃ v σ', v < 10000 ∧ tkV f n k = nI v ∧ fX2_takeToken σ t = some (0, σ') ∧ PC σ' f n t l0 (k + 1) (D ++ [Op.num v]) W d rel ∧ XC t l0 σ σ' := by
  obtain ⟨v, hv, ev⟩ := tkV_is h
  obtain ⟨t1, t2, t3, t4, t5, t6, t7, t8, t9, t10⟩ := id P
  have p5 := t7.2.2.2.2.1
  obtain ⟨σ', a1, a2, a3, a4, a5⟩ := addC t7 (Op.num v) (Or.inr trivial) (by omega) (k + 1) (by omega) (by omega)
  refine ⟨v, σ', hv, ev, ?_, P.pc a3 (by rw [a4]) (by rw [a4]; exact t4) t5 (by rw [a4]; exact t6) a2, a3⟩
  rw [h] at t8
  have a1' : fX3_addCode σ t (nI v) = some (0, σ') := a1
  unfold fX2_takeToken
  rw [rw_is t8 (by omega), qcall_s, qlet_e, if_pos (by decide), t8, if_pos (by rfl), t10 h, ev, a1', qcall_s]
theorem take_var (P : PT σ f n t l0 k D W d rel) (hk : k < 400) {i : Nat} (hi : i < 8) (h : tkK f n k = 6 + i) : ∃ σ', fX2_takeToken σ t = some (0, σ') ∧ PC σ' f n t l0 (k + 1) (D ++ [Op.var i]) W d rel ∧ XC t l0 σ σ' := by
  obtain ⟨t1, t2, t3, t4, t5, t6, t7, t8, t9, t10⟩ := id P
  have p5 := t7.2.2.2.2.1
  obtain ⟨σ', a1, a2, a3, a4, a5⟩ := addC t7 (Op.var i) (Or.inr trivial) (by omega) (k + 1) (by omega) (by omega)
  refine ⟨σ', ?_, P.pc a3 (by rw [a4]) (by rw [a4]; exact t4) t5 (by rw [a4]; exact t6) a2, a3⟩
  rw [h] at t8
  have a1' : fX3_addCode σ t (nI (10006 + i)) = some (0, σ') := a1
  unfold fX2_takeToken
  rw [rw_is t8 (by omega), qcall_s, qlet_e, if_pos (by rw [decide_eq_false (by omega)]; rfl), t8, if_neg (fun q => by have := (nI_eq (b := 14) (by omega) (by omega)).mp q; omega), vr_is (by omega), qcall_s, if_neg (by rw [decide_eq_true (by omega)]; decide), t8, show (10000 : Int32) = nI 10000 from rfl, nI_add, show 10000 + (6 + i) = 10006 + i by omega, a1', qcall_s]
/-- the kinds that are neither a rule's word, nor an int, nor a variable -/
theorem take_rest (h5 : σ.1 34 5 = nI k) (hk : k ≤ 26) (h : 2 < k ∧ k ≠ 14 ∧ ¬ (6 ≤ k ∧ k ≤ 13)) : fX2_takeToken σ t = (if k = 23 then (qlet (sI σ 34 7 ((σ.1 34 7) + (1 : Int32))) (fun σ79 => qcall (fX2_keepWaiting σ79) (fun _ σ83 => some ((0 : Int32), σ83)))) else (if k = 24 then (qlet (sI σ 34 7 ((σ.1 34 7) - (1 : Int32))) (fun σ105 => qcall (fX2_bond σ105 (4 : Int32)) (fun r111 σ111 => qcall (fX2_emitWaiting σ111 t r111) (fun _ σ114 => qlet (sI σ114 34 1 (if ((σ114.1 34 1) - (1 : Int32)) < (0 : Int32) then (0 : Int32) else ((σ114.1 34 1) - (1 : Int32)))) (fun σ128 => some ((0 : Int32), σ128)))))) else (if k = 15 then (qcall (fX2_bond σ (4 : Int32)) (fun r146 σ146 => qcall (fX2_emitWaiting σ146 t r146) (fun _ σ149 => qzz (0 : Int32) (qlet (sI σ149 34 8 (0 : Int32)) (fun σ154 => qcall (fX3_closeRule σ154 t) (fun _ σ158 => some ((0 : Int32), σ158))))))) else (if k = 3 then some ((0 : Int32), σ) else (qcall (fX2_bond σ (nI k)) (fun r178 σ178 => qcall (fX2_emitWaiting σ178 t r178) (fun _ σ181 => qcall (fX2_isRelation σ181) (fun r186 σ186 => qlet (fun (y220 : Int32) => (qzz y220 (qlet (sI σ186 34 8 y220) (fun σ220 => qcall (fX2_keepWaiting σ220) (fun _ σ224 => some ((0 : Int32), σ224)))))) (fun j220 => (qlet (fun (y215 : Unit) => (j220 (1 : Int32))) (fun j215 => (if r186 = (0 : Int32) then (qlet (fun (y219 : Unit) => (j220 (0 : Int32))) (fun j219 => (if (σ186.1 34 8) = (0 : Int32) then (j219 ()) else (if (σ186.1 34 5) = (5 : Int32) then (j219 ()) else (if (σ186.1 34 5) = (4 : Int32) then (j219 ()) else (j215 ())))))) else (j215 ()))))))))))))) := by
  unfold fX2_takeToken
  rw [rw_is h5 hk, qcall_s, qlet_e, if_pos (by rw [decide_eq_false (by omega)]; rfl), h5, if_neg (fun q => by have := (nI_eq (b := 14) (by omega) (by omega)).mp q; omega), vr_is hk, qcall_s, if_pos (by rw [decide_eq_false h.2.2]; rfl), h5]
  simp only [show (nI k = (23 : Int32)) = (k = 23) from nIc 23 (by omega) (by omega), show (nI k = (24 : Int32)) = (k = 24) from nIc 24 (by omega) (by omega), show (nI k = (15 : Int32)) = (k = 15) from nIc 15 (by omega) (by omega), show (nI k = (3 : Int32)) = (k = 3) from nIc 3 (by omega) (by omega)]
theorem take_if (P : PT σ f n t l0 k D W d rel) (hk : k < 400) (h : tkK f n k = 3) : fX2_takeToken σ t = some (0, σ) ∧ PC σ f n t l0 (k + 1) D W d rel := by
  obtain ⟨t1, t2, t3, t4, t5, t6, t7, t8, t9, t10⟩ := id P
  refine ⟨?_, P.pc (XC.rf t l0 σ) rfl t4 t5 t6 (t7.up (by omega) (by omega))⟩
  rw [h] at t8
  rw [take_rest t8 (by omega) (by omega), if_neg (by omega), if_neg (by omega), if_neg (by omega), if_pos rfl]
theorem take_open (P : PT σ f n t l0 k D W d rel) (hk : k < 400) (h : tkK f n k = 23) (hd : d < 6) (hw : W.length < 30) : ∃ σ', fX2_takeToken σ t = some (0, σ') ∧ PC σ' f n t l0 (k + 1) D (23 :: W) (d + 1) rel ∧ XC t l0 σ σ' := by
  obtain ⟨t1, t2, t3, t4, t5, t6, t7, t8, t9, t10⟩ := id P
  rw [h] at t8
  have s1 := t7.s34 (i := 7) (v := nI (d + 1)) (by omega)
  obtain ⟨σ', a1, a2, a3, a4⟩ := keep_is (kd := 23) s1 (by rw [sI_s, upd_n _ _ (by omega)]; exact t8) (by omega) hw (by omega)
  have x := (XC.s34 t l0 σ (k := 7) (nI (d + 1)) (by omega)).trans a3
  refine ⟨σ', ?_, P.pc x (by rw [a4 4 (by omega), sI_s, upd_n _ _ (by omega)]) (by rw [a4 7 (by omega), sI_s, upd_s]) (by omega) (by rw [a4 8 (by omega), sI_s, upd_n _ _ (by omega)]; exact t6) a2, x⟩
  rw [take_rest t8 (by omega) (by omega), if_pos rfl, t4, nI_1, qlet_e, a1, qcall_s]
theorem take_close (P : PT σ f n t l0 k D W d rel) (hk : k < 400) (h : tkK f n k = 24) (hd : 0 < d) {r : List Nat} (hr : (popB 1 W).2 = 23 :: r) : ∃ σ', fX2_takeToken σ t = some (0, σ') ∧ PC σ' f n t l0 (k + 1) (D ++ (popB 1 W).1.map Op.bin) r (d - 1) rel ∧ XC t l0 σ σ' := by
  obtain ⟨t1, t2, t3, t4, t5, t6, t7, t8, t9, t10⟩ := id P
  rw [h] at t8
  have s1 := t7.s34 (i := 7) (v := nI (d - 1)) (by omega)
  obtain ⟨σ1, a1, a2, a3, a4⟩ := emit_is (b := 1) (by omega) (by omega) s1 (by omega)
  rw [hr] at a2
  obtain ⟨p1, p2, p3, p4, p5, p6, p7, p8⟩ := a2
  rw [List.length_cons] at p3 p5 p7
  have x := ((XC.s34 t l0 σ (k := 7) (nI (d - 1)) (by omega)).trans a3).trans (XC.s34 t l0 σ1 (k := 1) (nI r.length) (by omega))
  refine ⟨sI σ1 34 1 (nI r.length), ?_, P.pc x (by rw [sI_s, upd_n _ _ (by omega), a4 4 (by omega), sI_s, upd_n _ _ (by omega)]) (by rw [sI_s, upd_n _ _ (by omega), a4 7 (by omega), sI_s, upd_s]) (by omega) (by rw [sI_s, upd_n _ _ (by omega), a4 8 (by omega), sI_s, upd_n _ _ (by omega)]; exact t6) ⟨by rw [sI_n _ _ _ _ (by omega)]; exact p1, by rw [sI_n _ _ _ _ (by omega)]; exact p2, by rw [sI_s, upd_s], by rw [sI_n _ _ _ _ (by omega)]; exact p4.2, by omega, by omega, by omega, fun y hy => p8 y (List.mem_cons_of_mem _ hy)⟩, x⟩
  have e : nI d - 1 = nI (d - 1) := by rw [show d = d - 1 + 1 by omega, nI_m1]; rfl
  rw [take_rest t8 (by omega) (by omega), if_neg (by omega), if_pos rfl, t4, e, qlet_e, show (4 : Int32) = nI 4 from rfl, bond_is (by omega), qcall_s, show bondN 4 = 1 from rfl, a1, qcall_s, p3, nI_m1, if_neg (nI_pos (by omega)), qlet_e]
theorem take_op (P : PT σ f n t l0 k D W d rel) (hk : k < 400) {kd : Nat} (h : tkK f n k = kd) (hkd : kd = 4 ∨ kd = 5 ∨ (16 ≤ kd ∧ kd ≤ 22)) (hw : (popB (bondN kd) W).2.length < 30) : ∃ σ', fX2_takeToken σ t = some (0, σ') ∧ PC σ' f n t l0 (k + 1) (D ++ (popB (bondN kd) W).1.map Op.bin) (kd :: (popB (bondN kd) W).2) d (decide (19 ≤ kd ∧ kd ≤ 22) || (rel && decide (kd ≠ 5 ∧ kd ≠ 4))) ∧ XC t l0 σ σ' := by
  obtain ⟨t1, t2, t3, t4, t5, t6, t7, t8, t9, t10⟩ := id P
  rw [h] at t8
  have hb : 1 ≤ bondN kd ∧ bondN kd ≤ 5 := by
    unfold bondN
    rcases (show kd = 4 ∨ kd = 5 ∨ kd = 16 ∨ kd = 17 ∨ kd = 18 ∨ kd = 19 ∨ kd = 20 ∨ kd = 21 ∨ kd = 22 by omega) with rfl | rfl | rfl | rfl | rfl | rfl | rfl | rfl | rfl <;> decide
  obtain ⟨σ1, a1, a2, a3, a4⟩ := emit_is hb.1 hb.2 t7 (by omega)
  have h5 : σ1.1 34 5 = nI kd := by rw [a4 5 (by omega)]; exact t8
  have h8 : σ1.1 34 8 = b2 rel := by rw [a4 8 (by omega)]; exact t6
  have fin : ∀ y : Bool, ∃ σ', (qzz (b2 y) (qlet (sI σ1 34 8 (b2 y)) (fun σ220 => qcall (fX2_keepWaiting σ220) (fun _ σ224 => some ((0 : Int32), σ224))))) = some (0, σ') ∧ PC σ' f n t l0 (k + 1) (D ++ (popB (bondN kd) W).1.map Op.bin) (kd :: (popB (bondN kd) W).2) d y ∧ XC t l0 σ σ' := fun y => by
    have s1 := a2.s34 (i := 8) (v := b2 y) (by omega)
    obtain ⟨σ', c1, c2, c3, c4⟩ := keep_is (kd := kd) s1 (by rw [sI_s, upd_n _ _ (by omega)]; exact h5) (by omega) hw (by omega)
    have x := (a3.trans (XC.s34 t l0 σ1 (k := 8) (b2 y) (by omega))).trans c3
    refine ⟨σ', ?_, P.pc x (by rw [c4 4 (by omega), sI_s, upd_n _ _ (by omega), a4 4 (by omega)]) (by rw [c4 7 (by omega), sI_s, upd_n _ _ (by omega), a4 7 (by omega)]; exact t4) t5 (by rw [c4 8 (by omega), sI_s, upd_s]) c2, x⟩
    have z : ∀ {β : Type} {b : Option β}, qzz (b2 y) b = b := by
      intro β b
      cases y <;> rfl
    rw [z, qlet_e, c1, qcall_s]
  have e : fX2_takeToken σ t = qzz (b2 (decide (19 ≤ kd ∧ kd ≤ 22) || (rel && decide (kd ≠ 5 ∧ kd ≠ 4)))) (qlet (sI σ1 34 8 (b2 (decide (19 ≤ kd ∧ kd ≤ 22) || (rel && decide (kd ≠ 5 ∧ kd ≠ 4))))) (fun σ220 => qcall (fX2_keepWaiting σ220) (fun _ σ224 => some ((0 : Int32), σ224)))) := by
    rw [take_rest t8 (by omega) (by omega), if_neg (by omega), if_neg (by omega), if_neg (by omega), if_neg (by omega), bond_is (by omega), qcall_s, a1, qcall_s, rl_is h5 (by omega), qcall_s]
    simp only [qlet_e, h5, h8, show (nI kd = (5 : Int32)) = (kd = 5) from nIc 5 (by omega) (by omega), show (nI kd = (4 : Int32)) = (kd = 4) from nIc 4 (by omega) (by omega)]
    by_cases q1 : 19 ≤ kd ∧ kd ≤ 22
    · rw [decide_eq_true q1, if_neg b2t]
      rfl
    · rw [decide_eq_false q1, if_pos b2f, Bool.false_or]
      cases rel
      · rw [if_pos b2f]
        rfl
      · rw [if_neg b2t, Bool.true_and]
        by_cases q5 : kd = 5
        · rw [if_pos q5, decide_eq_false (by omega)]
          rfl
        · rw [if_neg q5]
          by_cases q4 : kd = 4
          · rw [if_pos q4, decide_eq_false (by omega)]
            rfl
          · rw [if_neg q4, decide_eq_true ⟨q5, q4⟩]
            rfl
  rw [e]
  exact fin _
end
