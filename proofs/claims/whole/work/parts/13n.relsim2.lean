-- ===== a relation, told by both =====
def stS (μ : St) (p x : Nat) (y l r e b : Int32) : St := sI (sI (sI (sI (sI (sI μ 14 (200 * p + x) y) 15 (200 * p + x) l) 16 (200 * p + x) r) 17 (200 * p + x) e) 18 (200 * p + x) b) 13 p (nI (x + 1))
theorem st_is {μ : St} {p x : Nat} {y l r : Int32} {o : Bool} (hp : p < 12) (hx : x < 200) (h19 : μ.1 0 19 = nI p) (h13 : μ.1 13 p = nI x) : (qix (μ.1 0 19) 12 (qlet (((200 : Int32) * (μ.1 0 19)) + (μ.1 13 (μ.1 0 19).toNatClampNeg)) (fun x94 => qix x94 2400 (qlet (sI μ 14 x94.toNatClampNeg y) (fun σ103 => qix x94 2400 (qlet (sI σ103 15 x94.toNatClampNeg l) (fun σ111 => qix x94 2400 (qlet (sI σ111 16 x94.toNatClampNeg r) (fun σ120 => qix x94 2400 (qlet (sI σ120 17 x94.toNatClampNeg (σ120.1 0 30)) (fun σ131 => qix x94 2400 (qlet (sI σ131 18 x94.toNatClampNeg (vp_nar .boolean (b2 o))) (fun σ139 => qix (σ139.1 0 19) 12 (qix (σ139.1 0 19) 12 (qlet (sI σ139 13 (σ139.1 0 19).toNatClampNeg ((σ139.1 13 (σ139.1 0 19).toNatClampNeg) + (1 : Int32))) (fun σ152 => some ((0 : Int32), σ152))))))))))))))))) = some (0, stS μ p x y l r (μ.1 0 30) (b2 o)) := by
  have ex : (200 : Int32) * nI p + nI x = nI (200 * p + x) := by rw [show (200 : Int32) = nI 200 from rfl, pk_mul, nI_add]
  have qx : ∀ {β : Type} {b : Option β}, qix (nI (200 * p + x)) 2400 b = b := qix_nI (by omega) (by omega)
  have vb : vp_nar .boolean (b2 o) = b2 o := by cases o <;> rfl
  have e30 : (sI (sI (sI μ 14 (200 * p + x) y) 15 (200 * p + x) l) 16 (200 * p + x) r).1 0 30 = μ.1 0 30 := by rw [sI_n _ _ _ _ (by omega), sI_n _ _ _ _ (by omega), sI_n _ _ _ _ (by omega)]
  have e0 : ∀ z, (sI (sI (sI (sI (sI μ 14 (200 * p + x) y) 15 (200 * p + x) l) 16 (200 * p + x) r) 17 (200 * p + x) z) 18 (200 * p + x) (b2 o)).1 0 19 = nI p := fun z => by rw [sI_n _ _ _ _ (by omega), sI_n _ _ _ _ (by omega), sI_n _ _ _ _ (by omega), sI_n _ _ _ _ (by omega), sI_n _ _ _ _ (by omega)]; exact h19
  have e13 : ∀ z, (sI (sI (sI (sI (sI μ 14 (200 * p + x) y) 15 (200 * p + x) l) 16 (200 * p + x) r) 17 (200 * p + x) z) 18 (200 * p + x) (b2 o)).1 13 p = nI x := fun z => by rw [sI_n _ _ _ _ (by omega), sI_n _ _ _ _ (by omega), sI_n _ _ _ _ (by omega), sI_n _ _ _ _ (by omega), sI_n _ _ _ _ (by omega)]; exact h13
  rw [h19, qix_nI hp (by omega), nI_clamp (by omega), h13, ex, qlet_e, qx, nI_clamp (by omega), qlet_e, qx, qlet_e, qx, qlet_e, qx, e30, qlet_e, qx, vb, qlet_e, e0, qix_nI hp (by omega), qix_nI hp (by omega), nI_clamp (by omega), e13, nI_1, qlet_e]
  rfl
theorem st_k (μ : St) (p x : Nat) (y l r e b : Int32) (hx : x < 200) : RK p μ (stS μ p x y l r e b) ∧ (∀ i, ¬ (13 ≤ i ∧ i ≤ 18) → (stS μ p x y l r e b).1 i = μ.1 i) ∧ (stS μ p x y l r e b).1 13 p = nI (x + 1) ∧ (∀ i, 14 ≤ i → i ≤ 18 → ∀ j, j ≠ 200 * p + x → (stS μ p x y l r e b).1 i j = μ.1 i j) ∧ (stS μ p x y l r e b).1 14 (200 * p + x) = y ∧ (stS μ p x y l r e b).1 15 (200 * p + x) = l ∧ (stS μ p x y l r e b).1 16 (200 * p + x) = r ∧ (stS μ p x y l r e b).1 17 (200 * p + x) = e ∧ (stS μ p x y l r e b).1 18 (200 * p + x) = b := by
  unfold stS
  refine ⟨(((((RK.set14 p μ (i0 := 14) y (by omega) hx).trans (RK.set14 p _ (i0 := 15) l (by omega) hx)).trans (RK.set14 p _ (i0 := 16) r (by omega) hx)).trans (RK.set14 p _ (i0 := 17) e (by omega) hx)).trans (RK.set14 p _ (i0 := 18) b (by omega) hx)).trans (RK.set13 p _ p _), fun i hi => ?_, ?_, fun i h1 h2 j hj => ?_, ?_, ?_, ?_, ?_, ?_⟩
  · rw [sI_n _ _ _ _ (by omega), sI_n _ _ _ _ (by omega), sI_n _ _ _ _ (by omega), sI_n _ _ _ _ (by omega), sI_n _ _ _ _ (by omega), sI_n _ _ _ _ (by omega)]
  · rw [sI_s, upd_s]
  · have z : ∀ (ν : St) (i0 : Nat) (v : Int32), (sI ν i0 (200 * p + x) v).1 i j = ν.1 i j := fun ν i0 v => by
      by_cases q : i = i0
      · rw [q, sI_s, upd_n _ _ hj]
      · rw [sI_n _ _ _ _ q]
    rw [sI_n _ _ _ _ (by omega), z, z, z, z, z]
  · rw [sI_n _ _ _ _ (by omega), sI_n _ _ _ _ (by omega), sI_n _ _ _ _ (by omega), sI_n _ _ _ _ (by omega), sI_n _ _ _ _ (by omega), sI_s, upd_s]
  · rw [sI_n _ _ _ _ (by omega), sI_n _ _ _ _ (by omega), sI_n _ _ _ _ (by omega), sI_n _ _ _ _ (by omega), sI_s, upd_s]
  · rw [sI_n _ _ _ _ (by omega), sI_n _ _ _ _ (by omega), sI_n _ _ _ _ (by omega), sI_s, upd_s]
  · rw [sI_n _ _ _ _ (by omega), sI_n _ _ _ _ (by omega), sI_s, upd_s]
  · rw [sI_n _ _ _ _ (by omega), sI_s, upd_s]
/-- a relation is told, whole -/
def RelB (F t : Nat) (a2 : Int32) (f : Nat → Int32) (n p R : Nat) (K : Nat → Rule) (rs : List Rel) (o : Bool) (X : Option (Int32 × St)) (k : Nat) (σ μ' : St) : Prop := ∃ k' r De' wa' c' σ', X = CL F t a2 3 k' σ' ∧ XC t (offC K R) σ σ' ∧ k < k' ∧ PC σ' f n t (offC K R) k' ((cc rs o).1 ++ (Rel.L r ++ De')) (wa' ++ (Rel.k r :: (cc rs o).2)) 0 true ∧ Rel.o r = o ∧ okRel r ∧ Rel.R r = De' ++ (popB 4 wa').1.map Op.bin ∧ okW wa' ∧ depW wa' = 0 ∧ σ'.1 (61 + 5 * t) 5 = nI R ∧ PR μ' p R K (r :: rs) c' k' ∧ μ'.1 0 11 = nI k' ∧ μ'.1 0 13 = 0 ∧ TKs f n μ' ∧ NoE f n k' ∧ tkK f n k' ≠ 16 ∧ tkK f n k' ≠ 17 ∧ tkK f n k' ≠ 18
def K10 (μ μ' : St) : Prop := ∀ i, 9 ≤ i → i ≤ 12 → μ'.1 i = μ.1 i
theorem XM.k10 {p c : Nat} {μ μ' : St} (h : XM p c μ μ') : K10 μ μ' := fun i h1 h2 => h.1 i (by omega) (by omega) (by omega) (by omega)
theorem K10.trans {a b c : St} (h : K10 a b) (g : K10 b c) : K10 a c := fun i h1 h2 => (g i h1 h2).trans (h i h1 h2)
theorem EXi.done {De : List Op} {wa : List Nat} (E : EXi De wa 1) (h : depW wa = 0) : okEx (De ++ (popB 4 wa).1.map Op.bin) := by
  have E1 := E.pop (b := 4) (by omega)
  rw [popB_none E.1 h] at E1
  exact ⟨E1.2.2.2, E1.2.2.1⟩
theorem rel_sim {F t : Nat} {a2 : Int32} {f : Nat → Int32} {n p c R k : Nat} {K : Nat → Rule} {rs : List Rel} {o : Bool} {σ μ : St} (hF : 500 ≤ F) (hok : okRs rs) (P : PC σ f n t (offC K R) k (cc rs o).1 (cc rs o).2 0 false) (hR : σ.1 (61 + 5 * t) 5 = nI R) (Q : PR μ p R K rs c k) (h2k : 2 * (offR K R + rs.length) + 2 ≤ k) (ht : μ.1 0 11 = nI k) (hf : μ.1 0 13 = 0) (T : TKs f n μ) (hE : NoE f n k) : ∃ μ', fX6_relation μ (b2 o) = some (0, μ') ∧ RK p μ μ' ∧ K10 μ μ' ∧ (Flt t (offC K R) (CL F t a2 2 k σ) σ μ' ∨ RelB F t a2 f n p R K rs o (CL F t a2 2 k σ) k σ μ') := by
  obtain ⟨qT, q13, qO, q19, qp, q30, qc, qk, q2, qR, q12⟩ := id Q
  have hw := ccw hok o
  have bl : baseOk (cc rs o).2 := by
    rcases hw with e | e | e | e
    · rw [e]; exact ⟨by decide, Or.inl rfl⟩
    · rw [e]; exact ⟨by decide, Or.inr (by decide)⟩
    · rw [e]; exact ⟨by decide, Or.inr (by decide)⟩
    · rw [e]; exact ⟨by decide, Or.inr (by decide)⟩
  have b3 : popB 3 (cc rs o).2 = ([], (cc rs o).2) := by
    rcases hw with e | e | e | e <;> (rw [e]; rfl)
  have l2 : (cc rs o).2.length ≤ 2 := by
    rcases hw with e | e | e | e <;> (rw [e]; decide)
  unfold fX6_relation
  rw [qlet_e]
  obtain ⟨μ1, e1, xm1, c1⟩ := expr_sim (a2 := a2) hF qR bl P hR qp q12 q30 qc ht hf T hE qk
  rw [e1, qcall_s]
  simp only [qlet_e]
  rcases c1 with ⟨e, pl, σ', g1, fm, g3, g4⟩ | B
  · rw [if_neg fm.ne.2, if_neg fm.ne.1]
    obtain ⟨μ2, n1, n2, n3⟩ := next_dead fm
    obtain ⟨μ3, d1, d2, d3⟩ := expr_dead n2
    rw [n1, qcall_s, d1, qcall_s, if_neg d2.ne.2]
    have xx := (xm1.trans (n3 p c)).trans (d3 p c)
    exact ⟨μ3, rfl, xx.rk, xx.k10, Or.inl ⟨e, pl, σ', g1, d2, g3, g4⟩⟩
  · obtain ⟨k1, De, wa, σ1, B1, B2, B3, B4, B5, B6, B7, B8, B9, B10, B11, B12, B13, B14, B15, B16, B17⟩ := B
    have Tk := B11 k1 B13 B12
    have hL := B7.done B8
    have pl4 := popB_len 4 wa
    rw [popB_none B7.1 B8] at pl4
    have lL : (De ++ (popB 4 wa).1.map Op.bin).length = De.length + wa.length := by
      rw [List.length_append, List.length_map]
      have : ([] : List Nat).length = 0 := rfl
      omega
    obtain ⟨x1, x2, x3, x4, x5, x6, x7, x8, x9⟩ := id B6
    rw [B10, if_pos (show (0 : Int32) ≤ 0 by decide), B9, qix_nI (by omega) (by omega), nI_clamp (by omega), if_pos rfl, KR_rel Tk.1]
    have h25 : ¬ (tkK f n k1 = 25 ∧ 3 = 0) := fun q => by omega
    by_cases qr : 19 ≤ tkK f n k1 ∧ tkK f n k1 ≤ 22
    · rw [if_pos qr]
      have nx : nxt 3 (tkK f n k1) 0 false = some 2 := by
        unfold nxt nx3
        rw [if_neg (by omega), if_neg (by omega), if_neg (by omega), if_neg (by omega), if_neg (by omega), if_neg (by omega), if_pos rfl, if_pos rfl, if_pos qr]
      by_cases q400 : k1 = 400
      · subst q400
        have fm : FM (failS μ1 400 2) 2 (tkS f n 400) := failS_fm (e := 2) B9 (by omega) (by omega) Tk.2.1
        obtain ⟨μ3, b1, b2', b3'⟩ := expr_dead fm
        rw [next_full B10 B9, qcall_s, b1, qcall_s, if_neg b2'.ne.2]
        obtain ⟨σ', a1, a3, a4⟩ := CL_room (a2 := a2) hF (by omega) B13 B4 B5 qR nx (Or.inl (by omega)) h25
        have xx := (xm1.trans (failS_xm p c μ1 400 2)).trans (b3' p c)
        exact ⟨μ3, rfl, xx.rk, xx.k10, Or.inl ⟨2, tkS f n 400, σ', B1.trans a1, b2', a3, B2.trans a4⟩⟩
      · have hlk : lack (tkK f n k1) 0 R = false := by
          unfold lack
          rw [decide_eq_false (show ¬ tkK f n k1 ≤ 2 by omega), decide_eq_false (show ¬ tkK f n k1 = 23 by omega)]
          rfl
        obtain ⟨σ2, PT2, xc2, g2⟩ := CL_go (a2 := a2) hF (by omega) (show k1 < 400 by omega) B4 B5 qR nx hlk h25
        have bd : bondN (tkK f n k1) = 3 := by
          rcases (show tkK f n k1 = 19 ∨ tkK f n k1 = 20 ∨ tkK f n k1 = 21 ∨ tkK f n k1 = 22 by omega) with e | e | e | e <;> (rw [e]; rfl)
        obtain ⟨pa1, pa2⟩ := popB_app b3 wa
        rw [popB_any (b := 3) (by omega) (by omega) B7.1] at pa1 pa2
        rw [popB_none B7.1 B8, List.nil_append] at pa2
        obtain ⟨σ3, g3, P3, xc3⟩ := take_op PT2 (by omega) rfl (by omega) (by rw [bd, pa2]; omega)
        rw [bd, pa1, pa2, List.append_assoc] at P3
        have hrel : (decide (19 ≤ tkK f n k1 ∧ tkK f n k1 ≤ 22) || (false && decide (tkK f n k1 ≠ 5 ∧ tkK f n k1 ≠ 4))) = true := by
          rw [decide_eq_true qr]
          rfl
        rw [hrel] at P3
        rw [g3, qcall_s] at g2
        have xcc := (B2.trans xc2).trans xc3
        have hR3 : σ3.1 (61 + 5 * t) 5 = nI R := by rw [xcc.2.1 5 (by omega)]; exact hR
        generalize hLL : De ++ (popB 4 wa).1.map Op.bin = L at P3 hL lL x4 x5 B6
        have y2 : XM p c μ (sI μ1 0 11 (nI (k1 + 1))) := xm1.trans (XM.s0 p c μ1 (k := 11) _ (by omega))
        have s30 : (sI μ1 0 11 (nI (k1 + 1))).1 0 30 = nI (500 * p + (c + L.length)) := by rw [sI_s, upd_n _ _ (by omega)]; exact x4
        have s12 : (sI μ1 0 11 (nI (k1 + 1))).1 0 12 = 0 := by rw [sI_s, upd_n _ _ (by omega)]; exact x1
        have s11 : (sI μ1 0 11 (nI (k1 + 1))).1 0 11 = nI (k1 + 1) := by rw [sI_s, upd_s]
        have s13 : (sI μ1 0 11 (nI (k1 + 1))).1 0 13 = 0 := by rw [sI_s, upd_n _ _ (by omega)]; exact B10
        have s5 : HasM ((sI μ1 0 11 (nI (k1 + 1))).1 19) ((sI μ1 0 11 (nI (k1 + 1))).1 20) (500 * p + c) L := by rw [sI_n _ _ _ _ (by omega), sI_n _ _ _ _ (by omega)]; exact x5
        rw [next_go B9 (by omega), qcall_s]
        generalize sI μ1 0 11 (nI (k1 + 1)) = μ2 at y2 s30 s12 s11 s13 s5
        have noE : NoE f n (k1 + 1) := fun j hj => by
          by_cases e : j = k1
          · rw [e]; omega
          · exact B12 j (by omega)
        have bl3 : baseOk (tkK f n k1 :: (cc rs o).2) := ⟨by rw [List.length_cons]; omega, Or.inr (by show bondN _ < 4; omega)⟩
        obtain ⟨μ3, e3, xm3, c3⟩ := expr_sim (a2 := a2) hF qR bl3 P3 hR3 qp s12 s30 (show c + L.length ≤ k1 + 1 by omega) s11 s13 (y2.tks T) noE (by omega)
        rw [e3, qcall_s]
        have xm3' : XM p c μ μ3 := y2.trans (xm3.mono (by omega))
        rcases c3 with ⟨e, pl, σ', h1, fm, h3, h4⟩ | C
        · rw [if_neg fm.ne.2]
          exact ⟨μ3, rfl, xm3'.rk, xm3'.k10, Or.inl ⟨e, pl, σ', (B1.trans g2).trans h1, fm, h3, xcc.trans h4⟩⟩
        · obtain ⟨k3, De3, wa3, σ4, C1, C2, C3, C4, C5, C6, C7, C8, C9, C10, C11, C12, C13, C14, C15, C16, C17⟩ := C
          have hRr := C7.done C8
          obtain ⟨z1, z2, z3, z4, z5, z6, z7, z8, z9⟩ := id C6
          have pl43 := popB_len 4 wa3
          rw [popB_none C7.1 C8] at pl43
          have lR : (De3 ++ (popB 4 wa3).1.map Op.bin).length = De3.length + wa3.length := by
            rw [List.length_append, List.length_map]
            have : ([] : List Nat).length = 0 := rfl
            omega
          generalize hRR : De3 ++ (popB 4 wa3).1.map Op.bin = RR at hRr lR z4 z5 C6
          have Q3 : PR μ3 p R K rs (c + L.length + RR.length) k3 := Q.xm xm3' (by omega) (by rw [z4, Nat.add_assoc]) z1 (by omega) C13 (by omega)
          obtain ⟨wT, w13, wO, w19, wp, w30, wc, wk, w2, wR2, w12⟩ := id Q3
          rw [C10, if_pos (show (0 : Int32) ≤ 0 by decide)]
          have sort : μ1.1 3 k1 - 11 = nI (tkK f n k1 - 19) := by
            rcases Tk.1 with ⟨u1, u2⟩ | ⟨u1, -⟩
            · rw [u2, (rk_rel _ (by omega)).2 qr, show (11 : Int32) = nI 11 from rfl, pk_sub (by omega), show tkK f n k1 - 8 - 11 = tkK f n k1 - 19 by omega]
            · omega
          have st := st_is (y := μ1.1 3 k1 - 11) (l := μ.1 0 30) (r := μ2.1 0 30) (o := o) wp (show offR K R + rs.length < 200 by omega) w19 w13
          simp only [qlet_e] at st
          rw [st]
          obtain ⟨s1, s2, s3, s4, s14, s15, s16, s17, s18⟩ := st_k μ3 p (offR K R + rs.length) (μ1.1 3 k1 - 11) (μ.1 0 30) (μ2.1 0 30) (μ3.1 0 30) (b2 o) (by omega)
          generalize stS μ3 p (offR K R + rs.length) (μ1.1 3 k1 - 11) (μ.1 0 30) (μ2.1 0 30) (μ3.1 0 30) (b2 o) = μ4 at s1 s2 s3 s4 s14 s15 s16 s17 s18
          have m19 : ∀ j, j < c + L.length → μ3.1 19 (500 * p + j) = μ2.1 19 (500 * p + j) ∧ μ3.1 20 (500 * p + j) = μ2.1 20 (500 * p + j) := fun j hj => ⟨xm3.2.2.1 19 (by omega) (by omega) _ (by omega), xm3.2.2.1 20 (by omega) (by omega) _ (by omega)⟩
          have newR : RelM μ4 p (c + L.length + RR.length) (offR K R + rs.length) (o, (L, (tkK f n k1, RR))) := by
            refine ⟨⟨by omega, by omega⟩, 500 * p + c, by omega, ?_, ?_, ?_, ?_, ?_, ?_, ?_, ?_⟩
            · show 500 * p + c + L.length + RR.length ≤ _
              omega
            · rw [s14, sort]
            · rw [s15, q30]
            · rw [s16, s30, show 500 * p + c + L.length = 500 * p + (c + L.length) by omega]
            · show _ = nI (500 * p + c + L.length + RR.length)
              rw [s17, z4]
              congr 1
              omega
            · rw [s18]
            · rw [s2 19 (by omega), s2 20 (by omega)]
              refine HasM_congr s5 (fun i h1 h2 => ?_)
              have h2 : i < 500 * p + c + L.length := h2
              have := m19 (i - 500 * p) (by omega)
              rw [show 500 * p + (i - 500 * p) = i by omega] at this
              exact this
            · rw [s2 19 (by omega), s2 20 (by omega)]
              show HasM _ _ (500 * p + c + L.length) RR
              rw [Nat.add_assoc]
              exact z5
          have Q4 : PR μ4 p R K ((o, (L, (tkK f n k1, RR))) :: rs) (c + L.length + RR.length) k3 := by
            have g : (∀ i, 14 ≤ i → i ≤ 18 → ∀ k, k < offR K R + rs.length → μ4.1 i (200 * p + k) = μ3.1 i (200 * p + k)) := fun i h1 h2 k hk => s4 i h1 h2 _ (by omega)
            have old : ∀ (A : List Rel) (k0 : Nat), k0 + A.length ≤ offR K R + rs.length → RelsO μ3 p (c + L.length + RR.length) k0 A → RelsO μ4 p (c + L.length + RR.length) k0 A := by
              intro A
              induction A with
              | nil => intro k0 _ _; trivial
              | cons r A ih =>
                intro k0 hk0 hA
                rw [List.length_cons] at hk0
                exact ⟨hA.1.congr (Nat.le_refl _) hA.1.1.2 ⟨fun i h1 h2 => g i h1 h2 k0 (by omega), fun i h1 h2 j _ => by rw [s2 i (by omega)]⟩, ih (k0 + 1) (by omega) hA.2⟩
            refine ⟨⟨by rw [s2 9 (by omega)]; exact wT.1, fun r hr => ?_⟩, ?_, ?_, by rw [s2 0 (by omega)]; exact w19, wp, by rw [s2 0 (by omega)]; exact w30, wc, wk, ?_, wR2, by rw [s2 0 (by omega)]; exact w12⟩
            · obtain ⟨u1, u2, u3, u4, u5⟩ := wT.2 r hr
              have mo := offR_mono K (show r + 1 ≤ R by omega)
              rw [s2 10 (by omega), s2 11 (by omega), s2 12 (by omega)]
              refine ⟨u1, u2, u3, u4, old _ _ ?_ u5⟩
              rw [List.length_reverse]
              rw [offR] at mo
              omega
            · rw [s3, List.length_cons, Nat.add_assoc]
            · rw [List.reverse_cons, RelsO_app]
              refine ⟨old _ _ (by rw [List.length_reverse]; omega) wO, ?_, trivial⟩
              rw [List.length_reverse]
              exact newR
            · rw [List.length_cons]; omega
          have rk4 := xm3'.rk.trans s1
          refine ⟨μ4, rfl, rk4, xm3'.k10.trans (fun i h1 h2 => s2 i (by omega)), Or.inr ⟨k3, (o, (L, (tkK f n k1, RR))), De3, wa3, _, σ4, (B1.trans g2).trans C1, xcc.trans C2, by omega, ?_, rfl, ⟨hL, hRr, qr⟩, hRR.symm, C7.1, C8, C5, Q4, by rw [s2 0 (by omega)]; exact C9, by rw [s2 0 (by omega)]; exact C10, rk4.tks T, C12, C15, C16, C17⟩⟩
          rw [← List.append_assoc]
          exact C4
    · rw [if_neg qr]
      have fm : FM (failS μ1 k1 1) 1 (tkS f n k1) := failS_fm (e := 1) B9 B13 (by omega) Tk.2.1
      obtain ⟨μ2, n1, n2, n3⟩ := next_dead fm
      obtain ⟨μ3, d1, d2, d3⟩ := expr_dead n2
      rw [fail_is B10 B9 B13, qcall_s, n1, qcall_s, d1, qcall_s, if_neg d2.ne.2]
      have nx : nxt 3 (tkK f n k1) 0 false = none := by
        unfold nxt nx3
        rw [if_neg (by omega), if_neg (by omega), if_neg (by omega), if_neg (by omega), if_neg (by omega), if_neg (by omega), if_pos rfl, if_pos rfl, if_neg qr]
      obtain ⟨σ', a1, a3, a4⟩ := CL_syn (a2 := a2) hF (by omega) B13 B4 B5 qR nx h25
      have xx := ((xm1.trans (failS_xm p c μ1 k1 1)).trans (n3 p c)).trans (d3 p c)
      exact ⟨μ3, rfl, xx.rk, xx.k10, Or.inl ⟨1, tkS f n k1, σ', B1.trans a1, d2, a3, B2.trans a4⟩⟩
