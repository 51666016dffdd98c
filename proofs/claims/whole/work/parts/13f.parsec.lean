-- ===== the class takes tokens =====
def bondN (x : Nat) : Nat := if x = 4 then 1 else if x = 5 then 2 else if x = 16 then 4 else if x = 17 then 4 else if x = 18 then 5 else if x = 19 then 3 else if x = 20 then 3 else if x = 21 then 3 else if x = 22 then 3 else 0
def popB (b : Nat) : List Nat → List Nat × List Nat
  | [] => ([], [])
  | x :: r => if b ≤ bondN x then (x :: (popB b r).1, (popB b r).2) else ([], x :: r)
theorem popB_len (b : Nat) : ∀ w : List Nat, (popB b w).1.length + (popB b w).2.length = w.length
  | [] => rfl
  | x :: r => by
    have := popB_len b r
    rw [popB]
    split
    · rw [List.length_cons, List.length_cons]
      show (popB b r).1.length + 1 + (popB b r).2.length = r.length + 1
      omega
    · show 0 + (x :: r).length = _
      omega
theorem popB_app {b : Nat} {base : List Nat} (hb : popB b base = ([], base)) : ∀ w : List Nat, (popB b (w ++ base)).1 = (popB b w).1 ∧ (popB b (w ++ base)).2 = (popB b w).2 ++ base
  | [] => by
    rw [List.nil_append, hb]
    exact ⟨rfl, rfl⟩
  | x :: r => by
    obtain ⟨h1, h2⟩ := popB_app hb r
    rw [List.cons_append, popB, popB]
    split
    · exact ⟨by show x :: _ = x :: _; rw [h1], h2⟩
    · exact ⟨rfl, rfl⟩
theorem bond_le (x : Nat) : bondN x ≤ 5 := by
  unfold bondN
  repeat' split
  all_goals omega
theorem bond_is {σ : St} {x : Nat} (hx : x ≤ 26) : fX2_bond σ (nI x) = some (nI (bondN x), σ) := by
  unfold fX2_bond bondN
  have q : ∀ c : Nat, c ≤ 26 → (nI x = nI c) = (x = c) := fun c hc => propext (nI_eq (by omega) (by omega))
  have q4 : (nI x = (4 : Int32)) = (x = 4) := q 4 (by omega)
  have q5 : (nI x = (5 : Int32)) = (x = 5) := q 5 (by omega)
  have q16 : (nI x = (16 : Int32)) = (x = 16) := q 16 (by omega)
  have q17 : (nI x = (17 : Int32)) = (x = 17) := q 17 (by omega)
  have q18 : (nI x = (18 : Int32)) = (x = 18) := q 18 (by omega)
  have q19 : (nI x = (19 : Int32)) = (x = 19) := q 19 (by omega)
  have q20 : (nI x = (20 : Int32)) = (x = 20) := q 20 (by omega)
  have q21 : (nI x = (21 : Int32)) = (x = 21) := q 21 (by omega)
  have q22 : (nI x = (22 : Int32)) = (x = 22) := q 22 (by omega)
  simp only [q4, q5, q16, q17, q18, q19, q20, q21, q22]
  repeat' split
  all_goals rfl
/-- what the class holds of a rule under way: its code from l0 on, the signs that wait -/
def PD (σ : St) (t l0 : Nat) (D : List Op) (W : List Nat) (k : Nat) : Prop := σ.1 (61 + 5 * t) 4 = nI (l0 + D.length) ∧ HasC (σ.1 (61 + 5 * t + 3)) l0 D ∧ σ.1 34 1 = nI W.length ∧ HasS (σ.1 35) (W.map nI) ∧ l0 + D.length + W.length ≤ k ∧ k ≤ 401 ∧ W.length ≤ 30 ∧ ∀ x ∈ W, x ≤ 26
/-- what may change while a rule is told -/
def XC (t l0 : Nat) (σ σ' : St) : Prop := (∀ i, i ≠ 34 → i ≠ 35 → i ≠ 61 + 5 * t → i ≠ 61 + 5 * t + 3 → σ'.1 i = σ.1 i) ∧ (∀ i, i ≠ 4 → σ'.1 (61 + 5 * t) i = σ.1 (61 + 5 * t) i) ∧ (∀ i, i < l0 → σ'.1 (61 + 5 * t + 3) i = σ.1 (61 + 5 * t + 3) i) ∧ (∀ i, i = 3 → σ'.1 34 i = σ.1 34 i) ∧ σ'.2 = σ.2
theorem XC.rf (t l0 : Nat) (σ : St) : XC t l0 σ σ := ⟨fun _ _ _ _ _ => rfl, fun _ _ => rfl, fun _ _ => rfl, fun _ _ => rfl, rfl⟩
theorem XC.trans {t l0 : Nat} {a b c : St} (h : XC t l0 a b) (g : XC t l0 b c) : XC t l0 a c := ⟨fun i h1 h2 h3 h4 => (g.1 i h1 h2 h3 h4).trans (h.1 i h1 h2 h3 h4), fun i hi => (g.2.1 i hi).trans (h.2.1 i hi), fun i hi => (g.2.2.1 i hi).trans (h.2.2.1 i hi), fun i hi => (g.2.2.2.1 i hi).trans (h.2.2.2.1 i hi), g.2.2.2.2.trans h.2.2.2.2⟩
theorem XC.s34 (t l0 : Nat) (σ : St) {k : Nat} (v : Int32) (hk : k ≠ 3) : XC t l0 σ (sI σ 34 k v) := ⟨fun i h1 _ _ _ => sI_n _ _ _ _ h1, fun i _ => by rw [sI_n _ _ _ _ (by omega)], fun i _ => by rw [sI_n _ _ _ _ (by omega)], fun i hi => by rw [sI_s, upd_n _ _ (by omega)], rfl⟩
theorem XC.s35 (t l0 : Nat) (σ : St) (k : Nat) (v : Int32) : XC t l0 σ (sI σ 35 k v) := ⟨fun i _ h2 _ _ => sI_n _ _ _ _ h2, fun i _ => by rw [sI_n _ _ _ _ (by omega)], fun i _ => by rw [sI_n _ _ _ _ (by omega)], fun i hi => by rw [sI_n _ _ _ _ (by omega)], rfl⟩
theorem XC.scan {t l0 : Nat} {σ σ' : St} (h : ScK σ σ') : XC t l0 σ σ' := ⟨fun i h1 _ _ _ => h.1 i h1, fun i _ => by rw [h.1 _ (by omega)], fun i _ => by rw [h.1 _ (by omega)], fun i hi => h.2.1 i (by omega) (by omega) (by omega) (by omega), h.2.2⟩
/-- a code is added -/
theorem addC {σ : St} {t l0 : Nat} {D : List Op} {W : List Nat} {k : Nat} (P : PD σ t l0 D W k) (o : Op) (hk : l0 + D.length + W.length < k ∨ True) (h4 : l0 + D.length < 400) (k' : Nat) (hk' : l0 + D.length + 1 + W.length ≤ k') (hk2 : k' ≤ 401) : ∃ σ', fX3_addCode σ t (cO o) = some (0, σ') ∧ PD σ' t l0 (D ++ [o]) W k' ∧ XC t l0 σ σ' ∧ σ'.1 34 = σ.1 34 ∧ σ'.1 35 = σ.1 35 := by
  obtain ⟨p1, p2, p3, p4, p5, p6, p7, p8⟩ := P
  have e1 : (sI σ (61 + 5 * t + 3) (l0 + D.length) (cO o)).1 (61 + 5 * t) 4 = nI (l0 + D.length) := by rw [sI_n _ _ _ _ (by omega)]; exact p1
  have e34 : (sI (sI σ (61 + 5 * t + 3) (l0 + D.length) (cO o)) (61 + 5 * t) 4 (nI (l0 + D.length + 1))).1 34 = σ.1 34 := by rw [sI_n _ _ _ _ (by omega), sI_n _ _ _ _ (by omega)]
  have e35 : (sI (sI σ (61 + 5 * t + 3) (l0 + D.length) (cO o)) (61 + 5 * t) 4 (nI (l0 + D.length + 1))).1 35 = σ.1 35 := by rw [sI_n _ _ _ _ (by omega), sI_n _ _ _ _ (by omega)]
  have eC : (sI (sI σ (61 + 5 * t + 3) (l0 + D.length) (cO o)) (61 + 5 * t) 4 (nI (l0 + D.length + 1))).1 (61 + 5 * t + 3) = upd (σ.1 (61 + 5 * t + 3)) (l0 + D.length) (cO o) := by rw [sI_n _ _ _ _ (by omega), sI_s]
  refine ⟨sI (sI σ (61 + 5 * t + 3) (l0 + D.length) (cO o)) (61 + 5 * t) 4 (nI (l0 + D.length + 1)), ?_, ⟨?_, ?_, by rw [e34]; exact p3, by rw [e35]; exact p4, ?_, hk2, p7, p8⟩, ⟨fun i h1 h2 h3 h5 => ?_, fun i hi => ?_, fun i hi => ?_, fun i hi => by rw [e34], rfl⟩, e34, e35⟩
  · unfold fX3_addCode
    rw [qlet_e, p1, if_neg (show ¬ (400 : Int32) ≤ nI (l0 + D.length) from nI_ge (b := 400) h4 (by omega)), qix_nI h4 (by omega), nI_clamp (by omega), qlet_e, qlet_e, e1, nI_1]
  · rw [sI_s, upd_s, List.length_append, List.length_singleton, Nat.add_assoc]
  · rw [eC, HasC_app]
    exact ⟨HasC_congr p2 (fun i h1 h2 => upd_n _ _ (by omega)), upd_s _ _ _, trivial⟩
  · rw [List.length_append, List.length_singleton]
    omega
  · rw [sI_n _ _ _ _ h3, sI_n _ _ _ _ h5]
  · rw [sI_s, upd_n _ _ hi, sI_n _ _ _ _ (by omega)]
  · rw [eC, upd_n _ _ (by omega)]
/-- what waits is put out, as far as it binds so tightly -/
theorem emit_run {t l0 b : Nat} (hb1 : 1 ≤ b) (hb : b ≤ 5) : ∀ (W : List Nat) (D : List Op) (k N : Nat) (σ : St), PD σ t l0 D W k → l0 + D.length + W.length ≤ 400 → W.length < N → ∃ σ', fX2_emitWaiting_L t (nI b) N σ = some (0, σ') ∧ PD σ' t l0 (D ++ (popB b W).1.map Op.bin) (popB b W).2 k ∧ XC t l0 σ σ' ∧ ∀ i, i ≠ 1 → σ'.1 34 i = σ.1 34 i
  | [], D, k, N + 1, σ, P, _, _ => by
    refine ⟨σ, ?_, ?_, XC.rf t l0 σ, fun _ _ => rfl⟩
    · rw [fX2_emitWaiting_L, qlet_e, P.2.2.1, if_pos (by decide)]
    · show PD σ t l0 (D ++ []) [] k
      rw [List.append_nil]
      exact P
  | x :: r, D, k, N + 1, σ, P, h4, hN => by
    obtain ⟨p1, p2, p3, p4, p5, p6, p7, p8⟩ := id P
    rw [List.length_cons] at p3 p5 p7 h4 hN
    have hx : x ≤ 26 := p8 x List.mem_cons_self
    have ex : σ.1 35 r.length = nI x := by
      have := p4.1
      rw [List.length_map] at this
      exact this
    have hbl := bond_le x
    rw [fX2_emitWaiting_L, qlet_e, p3, if_neg (nI_nle (by omega) (by omega)), nI_m1, qix_nI (by omega) (by omega), nI_clamp (by omega), ex, bond_is hx, qcall_s, popB]
    by_cases q : b ≤ bondN x
    · rw [if_neg (nI_nlt q (by omega)), if_pos q, p3, nI_m1, qlet_e, sI_s, upd_s, qix_nI (by omega) (by omega), nI_clamp (by omega)]
      have e35 : (sI σ 34 1 (nI r.length)).1 35 r.length = nI x := by rw [sI_n _ _ _ _ (by omega)]; exact ex
      rw [e35, show (10000 : Int32) = nI 10000 from rfl, nI_add]
      have P1 : PD (sI σ 34 1 (nI r.length)) t l0 D r k := ⟨by rw [sI_n _ _ _ _ (by omega)]; exact p1, by rw [sI_n _ _ _ _ (by omega)]; exact p2, by rw [sI_s, upd_s], by rw [sI_n _ _ _ _ (by omega)]; exact p4.2, by omega, p6, by omega, fun y hy => p8 y (List.mem_cons_of_mem _ hy)⟩
      obtain ⟨σ1, a1, a2, a3, a4, a5⟩ := addC P1 (Op.bin x) (Or.inr trivial) (by omega) k (by omega) p6
      have a1' : fX3_addCode (sI σ 34 1 (nI r.length)) t (nI (10000 + x)) = some (0, σ1) := a1
      rw [a1', qcall_s]
      obtain ⟨σ', c1, c2, c3, c4⟩ := emit_run hb1 hb r (D ++ [Op.bin x]) k N σ1 a2 (by rw [List.length_append, List.length_singleton]; omega) (by omega)
      refine ⟨σ', c1, ?_, ((XC.s34 t l0 σ _ (by omega)).trans a3).trans c3, fun i hi => ?_⟩
      · rw [List.append_assoc] at c2
        exact c2
      · rw [c4 i hi, a4, sI_s, upd_n _ _ hi]
    · rw [if_pos (nI_lt (by omega) (by omega)), if_neg q]
      refine ⟨σ, rfl, ?_, XC.rf t l0 σ, fun _ _ => rfl⟩
      show PD σ t l0 (D ++ []) (x :: r) k
      rw [List.append_nil]
      exact P
theorem emit_is {t l0 b : Nat} {W : List Nat} {D : List Op} {k : Nat} {σ : St} (hb1 : 1 ≤ b) (hb : b ≤ 5) (P : PD σ t l0 D W k) (hk : k ≤ 400) : ∃ σ', fX2_emitWaiting σ t (nI b) = some (0, σ') ∧ PD σ' t l0 (D ++ (popB b W).1.map Op.bin) (popB b W).2 k ∧ XC t l0 σ σ' ∧ ∀ i, i ≠ 1 → σ'.1 34 i = σ.1 34 i := by
  have p5 := P.2.2.2.2.1
  have p7 := P.2.2.2.2.2.2.1
  unfold fX2_emitWaiting
  exact emit_run hb1 hb W D k 100000 σ P (by omega) (by omega)
theorem keep_is {σ : St} {t l0 : Nat} {D : List Op} {W : List Nat} {k kd : Nat} (P : PD σ t l0 D W k) (h5 : σ.1 34 5 = nI kd) (hkd : kd ≤ 26) (hw : W.length < 30) (hk2 : k ≤ 400) : ∃ σ', fX2_keepWaiting σ = some (0, σ') ∧ PD σ' t l0 D (kd :: W) (k + 1) ∧ XC t l0 σ σ' ∧ ∀ i, i ≠ 1 → σ'.1 34 i = σ.1 34 i := by
  obtain ⟨p1, p2, p3, p4, p5, p6, p7, p8⟩ := id P
  have e1 : (sI σ 35 W.length (nI kd)).1 34 1 = nI W.length := by rw [sI_n _ _ _ _ (by omega)]; exact p3
  refine ⟨sI (sI σ 35 W.length (nI kd)) 34 1 (nI (W.length + 1)), ?_, ⟨?_, ?_, ?_, ?_, ?_, by omega, by rw [List.length_cons]; omega, ?_⟩, (XC.s35 t l0 σ _ _).trans (XC.s34 t l0 _ _ (by omega)), fun i hi => ?_⟩
  · unfold fX2_keepWaiting
    rw [qlet_e, p3, if_neg (show ¬ (32 : Int32) ≤ nI W.length from nI_ge (b := 32) (by omega) (by omega)), qix_nI (by omega) (by omega), nI_clamp (by omega), h5, qlet_e, qlet_e, e1, nI_1]
  · rw [sI_n _ _ _ _ (by omega), sI_n _ _ _ _ (by omega)]
    exact p1
  · rw [sI_n _ _ _ _ (by omega), sI_n _ _ _ _ (by omega)]
    exact p2
  · rw [sI_s, upd_s, List.length_cons]
  · rw [sI_n _ _ _ _ (by omega), sI_s, List.map_cons]
    have := HasS_push p4 (nI kd)
    rw [List.length_map] at this
    exact this
  · rw [List.length_cons]
    omega
  · intro x hx
    rcases List.mem_cons.mp hx with e | e
    · rw [e]; exact hkd
    · exact p8 x e
  · rw [sI_s, upd_n _ _ hi, sI_n _ _ _ _ (by omega)]
