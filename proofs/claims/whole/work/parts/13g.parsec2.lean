-- ===== the class's loop over tokens =====
def enc : Option Nat → Int32
  | none => -1
  | some x => nI x
def nx0 (kd : Nat) : Option Nat := if kd ≤ 2 then some 1 else none
def nx1 (kd : Nat) : Option Nat := if kd = 3 then some 2 else none
def nx2 (kd : Nat) : Option Nat := if kd = 23 then some 2 else if kd = 14 then some 3 else if 6 ≤ kd ∧ kd ≤ 13 then some 3 else none
def nx3 (kd d : Nat) (rel : Bool) : Option Nat := if kd = 16 then some 2 else if kd = 17 then some 2 else if kd = 18 then some 2 else if d = 0 then (if rel = false then (if 19 ≤ kd ∧ kd ≤ 22 then some 2 else none) else if kd = 15 then some 0 else if kd = 5 then some 2 else if kd = 4 then some 2 else none) else if kd = 24 then some 3 else none
def nxt (s kd d : Nat) (rel : Bool) : Option Nat := if s = 0 then nx0 kd else if s = 1 then nx1 kd else if s = 2 then nx2 kd else nx3 kd d rel
theorem nIc {x : Nat} (c : Nat) (hx : x < 2 ^ 31) (hc : c < 2 ^ 31) : (nI x = nI c) = (x = c) := propext (nI_eq hx hc)
theorem rw_is {σ : St} {kd : Nat} (h : σ.1 34 5 = nI kd) (hk : kd ≤ 26) : fX2_isRuleWord σ = some (b2 (decide (kd ≤ 2)), σ) := by
  unfold fX2_isRuleWord
  simp only [qlet_e, h, show (nI kd = (0 : Int32)) = (kd = 0) from nIc 0 (by omega) (by omega), show (nI kd = (1 : Int32)) = (kd = 1) from nIc 1 (by omega) (by omega), show (nI kd = (2 : Int32)) = (kd = 2) from nIc 2 (by omega) (by omega)]
  by_cases q : kd ≤ 2
  · rw [decide_eq_true q]
    rcases (show kd = 0 ∨ kd = 1 ∨ kd = 2 by omega) with rfl | rfl | rfl <;> rfl
  · rw [decide_eq_false q, if_neg (by omega), if_neg (by omega), if_neg (by omega)]
    rfl
theorem rl_is {σ : St} {kd : Nat} (h : σ.1 34 5 = nI kd) (hk : kd ≤ 26) : fX2_isRelation σ = some (b2 (decide (19 ≤ kd ∧ kd ≤ 22)), σ) := by
  unfold fX2_isRelation
  simp only [qlet_e, h]
  by_cases q1 : kd < 19
  · rw [if_pos (show nI kd < 19 from nI_lt (b := 19) q1 (by omega)), decide_eq_false (by omega)]
    rfl
  · rw [if_neg (show ¬ nI kd < 19 from nI_nlt (b := 19) (by omega) (by omega))]
    by_cases q2 : 22 < kd
    · rw [if_pos (show (22 : Int32) < nI kd from nI_lt (a := 22) q2 (by omega)), decide_eq_false (by omega)]
      rfl
    · rw [if_neg (show ¬ (22 : Int32) < nI kd from nI_nlt (a := 22) (by omega) (by omega)), decide_eq_true (by omega)]
      rfl
theorem vr_is {σ : St} {kd : Nat} (hk : kd ≤ 26) : fX3_isVar σ (nI kd) = some (b2 (decide (6 ≤ kd ∧ kd ≤ 13)), σ) := by
  by_cases q : 6 ≤ kd ∧ kd ≤ 13
  · rw [decide_eq_true q, isVar_y q.1 q.2]
    rfl
  · rw [decide_eq_false q, isVar_n (by omega) (by omega)]
    rfl
theorem stU_is {σ : St} {kd d : Nat} {rel : Bool} (h : σ.1 34 5 = nI kd) (hk : kd ≤ 26) (h7 : σ.1 34 7 = nI d) (hd : d ≤ 6) (h8 : σ.1 34 8 = b2 rel) : fX2_stateBehindUnit σ = some (enc (nx3 kd d rel), σ) := by
  unfold fX2_stateBehindUnit nx3
  simp only [qlet_e, h, h7, h8, rl_is h hk, qcall_s, show (nI kd = (16 : Int32)) = (kd = 16) from nIc 16 (by omega) (by omega), show (nI kd = (17 : Int32)) = (kd = 17) from nIc 17 (by omega) (by omega), show (nI kd = (18 : Int32)) = (kd = 18) from nIc 18 (by omega) (by omega), show (nI kd = (15 : Int32)) = (kd = 15) from nIc 15 (by omega) (by omega), show (nI kd = (5 : Int32)) = (kd = 5) from nIc 5 (by omega) (by omega), show (nI kd = (4 : Int32)) = (kd = 4) from nIc 4 (by omega) (by omega), show (nI kd = (24 : Int32)) = (kd = 24) from nIc 24 (by omega) (by omega)]
  by_cases a1 : kd = 16
  · rw [if_pos a1, if_pos a1]; rfl
  rw [if_neg a1, if_neg a1]
  by_cases a2 : kd = 17
  · rw [if_pos a2, if_pos a2]; rfl
  rw [if_neg a2, if_neg a2]
  by_cases a3 : kd = 18
  · rw [if_pos a3, if_pos a3]; rfl
  rw [if_neg a3, if_neg a3]
  by_cases a4 : d = 0
  · rw [if_pos a4, a4, if_pos (show nI 0 ≤ 0 by decide)]
    cases rel
    · rw [if_pos b2f, if_pos rfl]
      by_cases a5 : 19 ≤ kd ∧ kd ≤ 22
      · rw [if_pos a5, decide_eq_true a5, if_neg b2t]; rfl
      · rw [if_neg a5, decide_eq_false a5, if_pos b2f]; rfl
    · rw [if_neg b2t, if_neg (show ¬ true = false by decide)]
      by_cases a5 : kd = 15
      · rw [if_pos a5, if_pos a5]; rfl
      rw [if_neg a5, if_neg a5]
      by_cases a6 : kd = 5
      · rw [if_pos a6, if_pos a6]; rfl
      rw [if_neg a6, if_neg a6]
      by_cases a7 : kd = 4
      · rw [if_pos a7, if_pos a7]; rfl
      rw [if_neg a7, if_neg a7]; rfl
  · rw [if_neg a4, if_neg (nI_nle (by omega) (by omega))]
    by_cases a5 : kd = 24
    · rw [if_pos a5, if_pos a5]; rfl
    rw [if_neg a5, if_neg a5]; rfl
theorem stB_is {σ : St} {s kd d : Nat} {rel : Bool} (hs : s ≤ 3) (h : σ.1 34 5 = nI kd) (hk : kd ≤ 26) (h7 : σ.1 34 7 = nI d) (hd : d ≤ 6) (h8 : σ.1 34 8 = b2 rel) : fX2_stateBehind σ (nI s) = some (enc (nxt s kd d rel), σ) := by
  unfold fX2_stateBehind nxt
  simp only [qlet_e, h, rw_is h hk, stU_is h hk h7 hd h8, vr_is hk, qcall_s, show (nI s = (0 : Int32)) = (s = 0) from nIc 0 (by omega) (by omega), show (nI s = (1 : Int32)) = (s = 1) from nIc 1 (by omega) (by omega), show (nI s = (2 : Int32)) = (s = 2) from nIc 2 (by omega) (by omega), show (nI kd = (3 : Int32)) = (kd = 3) from nIc 3 (by omega) (by omega), show (nI kd = (23 : Int32)) = (kd = 23) from nIc 23 (by omega) (by omega), show (nI kd = (14 : Int32)) = (kd = 14) from nIc 14 (by omega) (by omega)]
  by_cases a0 : s = 0
  · rw [if_pos a0, if_pos a0]
    unfold nx0
    by_cases q : kd ≤ 2
    · rw [decide_eq_true q, if_neg b2t, if_pos q]; rfl
    · rw [decide_eq_false q, if_pos b2f, if_neg q]; rfl
  rw [if_neg a0, if_neg a0]
  by_cases a1 : s = 1
  · rw [if_pos a1, if_pos a1]
    unfold nx1
    by_cases q : kd = 3
    · rw [if_pos q, if_pos q]; rfl
    · rw [if_neg q, if_neg q]; rfl
  rw [if_neg a1, if_neg a1]
  by_cases a2 : s = 2
  · rw [if_pos a2, if_pos a2]
    unfold nx2
    by_cases q : kd = 23
    · rw [if_pos q, if_pos q]; rfl
    rw [if_neg q, if_neg q]
    by_cases q2 : kd = 14
    · rw [if_pos q2, if_pos q2]; rfl
    rw [if_neg q2, if_neg q2]
    by_cases q3 : 6 ≤ kd ∧ kd ≤ 13
    · rw [decide_eq_true q3, if_neg b2t, if_pos q3]; rfl
    · rw [decide_eq_false q3, if_pos b2f, if_neg q3]; rfl
  rw [if_neg a2, if_neg a2]
def lack (kd d R : Nat) : Bool := (decide (kd ≤ 2) && decide (12 ≤ R)) || (decide (kd = 23) && decide (6 ≤ d))
theorem lack_is {σ : St} {t kd d R : Nat} (h : σ.1 34 5 = nI kd) (hk : kd ≤ 26) (h7 : σ.1 34 7 = nI d) (hd : d ≤ 6) (hR : σ.1 (61 + 5 * t) 5 = nI R) (hR2 : R ≤ 12) : fX2_lacksRoom σ t = some (b2 (lack kd d R), σ) := by
  unfold fX2_lacksRoom lack
  simp only [rw_is h hk, qcall_s, qlet_e, h, h7, hR, show (nI kd = (23 : Int32)) = (kd = 23) from nIc 23 (by omega) (by omega)]
  by_cases q1 : kd ≤ 2
  · rw [decide_eq_true q1, if_neg b2t, Bool.true_and]
    by_cases q2 : 12 ≤ R
    · rw [if_pos (show (12 : Int32) ≤ nI R from nI_le (a := 12) q2 (by omega)), decide_eq_true q2]
      rfl
    · rw [if_neg (show ¬ (12 : Int32) ≤ nI R from nI_ge (b := 12) (by omega) (by omega)), decide_eq_false q2, if_neg (by omega), decide_eq_false (show ¬ kd = 23 by omega)]
      rfl
  · rw [decide_eq_false q1, if_pos b2f, Bool.false_and, Bool.false_or]
    by_cases q2 : kd = 23
    · rw [if_pos q2, decide_eq_true q2, Bool.true_and]
      by_cases q3 : 6 ≤ d
      · rw [if_neg (show ¬ nI d < 6 from nI_nlt (b := 6) q3 (by omega)), decide_eq_true q3]
        rfl
      · rw [if_pos (show nI d < 6 from nI_lt (b := 6) (by omega) (by omega)), decide_eq_false q3]
        rfl
    · rw [if_neg q2, decide_eq_false q2]
      rfl
theorem nxt_le {s kd d x : Nat} {rel : Bool} (h : nxt s kd d rel = some x) : x ≤ 3 := by
  unfold nxt nx0 nx1 nx2 nx3 at h
  repeat' split at h
  all_goals (cases h <;> omega)
def CL (F t : Nat) (a2 : Int32) (s k : Nat) (σ : St) : Option (Int32 × St) := fX2_readInto_L t a2 (F - k) (nI s) (nI (k + 1)) σ
def PC (σ : St) (f : Nat → Int32) (n t l0 k : Nat) (D : List Op) (W : List Nat) (d : Nat) (rel : Bool) : Prop := σ.1 1 = f ∧ ScR σ n ∧ σ.1 34 4 = nI (tkP f n k) ∧ σ.1 34 7 = nI d ∧ d ≤ 6 ∧ σ.1 34 8 = b2 rel ∧ PD σ t l0 D W k
/-- the k-th token is scanned -/
def PT (σ : St) (f : Nat → Int32) (n t l0 k : Nat) (D : List Op) (W : List Nat) (d : Nat) (rel : Bool) : Prop := σ.1 1 = f ∧ ScR σ n ∧ σ.1 34 4 = nI (tkP f n (k + 1)) ∧ σ.1 34 7 = nI d ∧ d ≤ 6 ∧ σ.1 34 8 = b2 rel ∧ PD σ t l0 D W k ∧ σ.1 34 5 = nI (tkK f n k) ∧ σ.1 34 9 = nI (tkS f n k) ∧ (tkK f n k = 14 → σ.1 34 6 = tkV f n k)
theorem CL_step {F t : Nat} {a2 : Int32} {s k n l0 d R : Nat} {σ : St} {f : Nat → Int32} {D : List Op} {W : List Nat} {rel : Bool} (hF : 500 ≤ F) (hs : s ≤ 3) (hk : k ≤ 400) (P : PC σ f n t l0 k D W d rel) (hR : σ.1 (61 + 5 * t) 5 = nI R) (hR2 : R ≤ 12) : ∃ σ1, PT σ1 f n t l0 k D W d rel ∧ XC t l0 σ σ1 ∧ CL F t a2 s k σ = (if tkK f n k = 25 ∧ s = 0 then some (0, σ1) else match nxt s (tkK f n k) d rel with
    | none => some (1, σ1)
    | some x => if 400 ≤ k ∨ lack (tkK f n k) d R = true then some (2, σ1) else qcall (fX2_takeToken σ1 t) (fun _ σ2 => CL F t a2 x (k + 1) σ2)) := by
  obtain ⟨c1, c2, c3, c4, c5, c6, c7⟩ := P
  have hkd := (tk_is f n k).2.2.2.2.1
  obtain ⟨σ1, a1, a2', a3, a4, a5, a6⟩ := scT_is (k := k) c2 (by rw [c1]; exact c3)
  rw [c1] at a3 a4 a5 a6
  have e1 : ∀ i, i ≠ 34 → σ1.1 i = σ.1 i := a2'.1
  have e2 : ∀ i, i ≠ 4 → i ≠ 5 → i ≠ 6 → i ≠ 9 → σ1.1 34 i = σ.1 34 i := a2'.2.1
  obtain ⟨p1, p2, p3, p4, p5, p6, p7, p8⟩ := c7
  have T : PT σ1 f n t l0 k D W d rel := ⟨by rw [e1 1 (by omega)]; exact c1, a2'.r c2, a4, by rw [e2 7 (by omega) (by omega) (by omega) (by omega)]; exact c4, c5, by rw [e2 8 (by omega) (by omega) (by omega) (by omega)]; exact c6, ⟨by rw [e1 _ (by omega)]; exact p1, by rw [e1 _ (by omega)]; exact p2, by rw [e2 1 (by omega) (by omega) (by omega) (by omega)]; exact p3, by rw [e1 _ (by omega)]; exact p4, p5, p6, p7, p8⟩, a5, a3, a6⟩
  refine ⟨σ1, T, XC.scan a2', ?_⟩
  obtain ⟨t1, t2, t3, t4, t5, t6, t7, t8, t9, t10⟩ := T
  have hR' : σ1.1 (61 + 5 * t) 5 = nI R := by rw [e1 _ (by omega)]; exact hR
  unfold CL
  obtain ⟨G, hG⟩ : ∃ G, F - k = G + 1 := ⟨F - k - 1, by omega⟩
  have hG2 : F - (k + 1) = G := by omega
  rw [hG, hG2, fX2_readInto_L, if_neg (show ¬ (401 : Int32) < nI (k + 1) from nI_nlt (a := 401) (by omega) (by omega)), a1, qcall_s]
  simp only [qlet_e, t8, stB_is hs t8 hkd t4 t5 t6, lack_is t8 hkd t4 t5 hR' hR2, qcall_s, nI_1, show (nI (tkK f n k) = (25 : Int32)) = (tkK f n k = 25) from nIc 25 (by omega) (by omega), show (nI s = (0 : Int32)) = (s = 0) from nIc 0 (by omega) (by omega)]
  have tail : (if enc (nxt s (tkK f n k) d rel) = -1 then some ((1 : Int32), σ1) else if (400 : Int32) < nI (k + 1) then some ((2 : Int32), σ1) else if b2 (lack (tkK f n k) d R) = 0 then qcall (fX2_takeToken σ1 t) (fun _ σ104 => fX2_readInto_L t a2 G (enc (nxt s (tkK f n k) d rel)) (nI (k + 1 + 1)) σ104) else some ((2 : Int32), σ1)) = (match nxt s (tkK f n k) d rel with
    | none => some (1, σ1)
    | some x => if 400 ≤ k ∨ lack (tkK f n k) d R = true then some (2, σ1) else qcall (fX2_takeToken σ1 t) (fun _ σ2 => fX2_readInto_L t a2 G (nI x) (nI (k + 1 + 1)) σ2)) := by
    cases hx : nxt s (tkK f n k) d rel with
    | none => rfl
    | some x =>
      have hx3 : x ≤ 3 := nxt_le hx
      have hx2 : ¬ enc (some x) = -1 := nI_neg1 (by omega)
      rw [if_neg hx2]
      by_cases q : 400 ≤ k
      · rw [if_pos (show (400 : Int32) < nI (k + 1) from nI_lt (a := 400) (by omega) (by omega))]
        show _ = if _ then _ else _
        rw [if_pos (Or.inl q)]
      · rw [if_neg (show ¬ (400 : Int32) < nI (k + 1) from nI_nlt (a := 400) (by omega) (by omega))]
        show _ = if _ then _ else _
        cases hl : lack (tkK f n k) d R
        · rw [if_pos b2f, if_neg (by rintro (h | h); exact q h; exact absurd h (by decide))]
          rfl
        · rw [if_neg b2t, if_pos (Or.inr rfl)]
  rw [tail]
  by_cases q1 : tkK f n k = 25
  · rw [if_pos q1]
    by_cases q2 : s = 0
    · rw [if_pos q2, if_pos ⟨q1, q2⟩]
    · rw [if_neg q2, if_neg (fun h => q2 h.2)]
  · rw [if_neg q1, if_neg (fun h => q1 h.1)]
