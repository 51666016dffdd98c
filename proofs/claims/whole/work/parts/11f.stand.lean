-- ===== all evenings =====
theorem fFillI_run {id n : Nat} {v : Int32} (hn : n ≤ 1000) : ∀ (j k m : Nat) (σ : St), j + k = n → j < m → (∀ i, i < k → σ.1 id i = v) → ∃ σ', fFillI_L id n v m (nI k) σ = some (0, σ') ∧ (∀ i, i < n → σ'.1 id i = v) ∧ (∀ i, i ≠ id → σ'.1 i = σ.1 i) ∧ σ'.2 = σ.2
  | 0, k, m + 1, σ, e, _, h => by
    have : k = n := by omega
    subst this
    rw [fFillI_L, if_pos (show Int32.ofNat k ≤ nI k from nI_le (Nat.le_refl _) (by omega))]
    exact ⟨σ, rfl, h, fun _ _ => rfl, rfl⟩
  | j + 1, k, m + 1, σ, e, hm, h => by
    rw [fFillI_L, if_neg (show ¬ Int32.ofNat n ≤ nI k from nI_ge (by omega) (by omega)), qix_nI (show k < n by omega) (by omega), nI_clamp (by omega)]
    simp only [qlet, nI_1]
    obtain ⟨σ', a1, a2, a3, a4⟩ := fFillI_run hn j (k + 1) m (sI σ id k v) (by omega) (by omega) (fun i hi => by
      rw [sI_s]
      by_cases q : i = k
      · rw [q, upd_s]
      · rw [upd_n _ _ q]
        exact h i (by omega))
    exact ⟨σ', a1, a2, fun i hi => by rw [a3 i hi, sI_n _ _ _ _ hi], a4⟩
theorem fFillI_is (σ : St) (id : Nat) {n : Nat} (v : Int32) (hn : n ≤ 1000) : ∃ σ', fFillI σ id n v = some (0, σ') ∧ (∀ i, i < n → σ'.1 id i = v) ∧ (∀ i, i ≠ id → σ'.1 i = σ.1 i) ∧ σ'.2 = σ.2 := by
  unfold fFillI
  exact fFillI_run hn n 0 100000 σ (by omega) (by omega) (fun i hi => absurd hi (by omega))
theorem fX1_startMonths_is {σ : St} {l : Nat} (hl : l < 6) : ∃ σ', fX1_startMonths σ (nI l) = some (0, σ') ∧ σ'.1 58 l = 0 ∧ σ'.1 (38 + l) 0 = σ.1 5 l ∧ σ'.1 (45 + l) 0 = -1 ∧ (∀ k, 0 < k → k < 15 → σ'.1 (38 + l) k = -1 ∧ σ'.1 (45 + l) k = -1) ∧ KeepCl σ σ' l := by
  unfold fX1_startMonths
  simp only [qix_nI hl (show 6 ≤ 2 ^ 31 by omega), nI_clamp (show l < 2 ^ 31 by omega)]
  obtain ⟨σ1, a1, a2, a3, a4⟩ := fFillI_is σ (38 + l) (n := 15) (-1) (by omega)
  rw [a1, qcall_s]
  obtain ⟨σ2, b1, b2, b3, b4⟩ := fFillI_is σ1 (45 + l) (n := 15) (-1) (by omega)
  rw [b1, qcall_s]
  obtain ⟨σ3, c1, c2, c3, c4⟩ := fFillI_is σ2 (52 + l) (n := 15) (-1) (by omega)
  rw [c1, qcall_s]
  simp only [show ∀ b : Option (Int32 × St), qix (0 : Int32) 15 b = b from fun b => qix_nI (k := 0) (by omega) (by omega), cl_0, qlet]
  refine ⟨_, rfl, ?_, ?_, ?_, fun k h1 h2 => ⟨?_, ?_⟩, fun i h1 h2 h3 h4 => ?_, fun o ho => ?_, ?_⟩
  · rw [sI_s, upd_s]
  · rw [sI_n _ _ _ _ (by omega), sI_s, upd_s, c3 5 (by omega), b3 5 (by omega), a3 5 (by omega)]
  · rw [sI_n _ _ _ _ (by omega), sI_n _ _ _ _ (by omega), c3 _ (by omega), b2 0 (by omega)]
  · rw [sI_n _ _ _ _ (by omega), sI_s, upd_n _ _ (by omega), c3 _ (by omega), b3 _ (by omega), a2 k h2]
  · rw [sI_n _ _ _ _ (by omega), sI_n _ _ _ _ (by omega), c3 _ (by omega), b2 k h2]
  · rw [sI_n _ _ _ _ h1, sI_n _ _ _ _ h2, c3 i h4, b3 i h3, a3 i h2]
  · rw [sI_s, upd_n _ _ ho, sI_n _ _ _ _ (by omega), c3 58 (by omega), b3 58 (by omega), a3 58 (by omega)]
  · exact c4.trans (b4.trans a4)
/-- what standing by n may change -/
def KeepS (σ σ' : St) : Prop := (∀ i, i < 36 ∨ i = 60 ∨ (61 ≤ i ∧ i ≤ 95 ∧ (i - 61) % 5 ≠ 4) → σ'.1 i = σ.1 i) ∧ σ'.2 = σ.2
def KeepG (μ μ' : St) : Prop := (∀ i, i < 32 ∨ 40 < i → μ'.1 i = μ.1 i) ∧ μ'.2 = μ.2
theorem KeepS.rf (σ : St) : KeepS σ σ := ⟨fun _ _ => rfl, rfl⟩
theorem KeepG.rf (μ : St) : KeepG μ μ := ⟨fun _ _ => rfl, rfl⟩
theorem KeepS.trans {a b c : St} (h : KeepS a b) (g : KeepS b c) : KeepS a c := ⟨fun i hi => (g.1 i hi).trans (h.1 i hi), g.2.trans h.2⟩
theorem KeepG.trans {a b c : St} (h : KeepG a b) (g : KeepG b c) : KeepG a c := ⟨fun i hi => (g.1 i hi).trans (h.1 i hi), g.2.trans h.2⟩
theorem KeepC1.s {σ σ' : St} {l : Nat} (h : KeepC1 σ σ' l) (hl : l < 6) : KeepS σ σ' := ⟨fun i hi => h.1 i (by omega) (by omega) (by omega) (by omega) (by omega) (by omega) (by omega), h.2.2.2⟩
theorem KeepM1.g {μ μ' : St} {l : Nat} (h : KeepM1 μ μ' l) : KeepG μ μ' := ⟨h.1, h.2.2.2⟩
theorem KeepS.tx {σ σ' : St} (h : KeepS σ σ') : TX σ σ' := ⟨fun i h1 h2 h3 => h.1 i (by omega), by rw [h.2]⟩
theorem KeepG.mx {μ μ' : St} (h : KeepG μ μ') : MX μ μ' := fun i h1 h2 => h.1 i (by omega)
theorem KeepG.mid {μ μ' : St} (h : KeepG μ μ') : ∀ i, 22 ≤ i → i ≤ 31 → μ'.1 i = μ.1 i := fun i h1 h2 => h.1 i (by omega)
theorem RuleR.mono {σ σ' μ μ' : St} {l : Nat} (R : RuleR σ μ l) (h : TX σ σ') (g : MX μ μ') : RuleR σ' μ' l := by
  unfold RuleR
  rw [h.2]
  refine ⟨R.1, fun s hs => ?_⟩
  obtain ⟨hh, h1, h2⟩ := R.2 s hs
  exact ⟨hh, fun σ1 t1 => h1 σ1 (h.trans t1), fun σ1 μ1 t1 t2 V => h2 σ1 μ1 (h.trans t1) (g.trans t2) V⟩
theorem judS_congr {μ μ' : St} (h : ∀ i, 22 ≤ i → i ≤ 31 → μ'.1 i = μ.1 i) (mo n k : Nat) : judS μ' mo n k = judS μ mo n k := by
  unfold judS
  rw [h 29 (by omega) (by omega), verdS_congr h]
theorem Judged.congrM {σ μ μ' : St} {mo n : Nat} (J : Judged σ μ mo n) (h : ∀ i, 22 ≤ i → i ≤ 31 → μ'.1 i = μ.1 i) : Judged σ μ' mo n := ⟨J.1, fun k hk => by rw [judS_congr h]; exact J.2 k hk⟩
/-- all that the evenings stand on -/
def SimI (σ μ : St) (mo la wn fn n : Nat) : Prop := InvW σ μ mo la ∧ InvF σ μ la wn fn ∧ Judged σ μ mo n ∧ ∀ l, l < la → RuleR σ μ l
theorem SimI.keep {σ σ' μ μ' : St} {mo la wn fn n : Nat} (I : SimI σ μ mo la wn fn n) (h : KeepS σ σ') (g : KeepG μ μ') : SimI σ' μ' mo la wn fn n := by
  obtain ⟨W, F, J, X⟩ := I
  refine ⟨(W.congr (fun i h1 h2 => h.1 i (by omega))).congrM (fun i h1 h2 => g.1 i (by omega)) (by rw [g.1 0 (by omega)]) (by rw [g.1 0 (by omega)]), (F.congr (fun i h1 h2 => h.1 i (by omega)) (by rw [h.1 21 (by omega)]) (by rw [h.1 21 (by omega)])).congrM g.mid (by rw [g.1 0 (by omega)]) (by rw [g.1 0 (by omega)]), (J.congr (by rw [h.1 21 (by omega)]) (h.1 32 (by omega))).congrM g.mid, fun l hl => (X l hl).mono h.tx g.mx⟩
theorem sb0 (a : Int32) (n : Nat) (v2 v3 : Int32) (σ : St) : fX1_standBy_L a (n + 1) 0 v2 v3 σ = if (σ.1 2 7) ≤ v2 then (fX1_standBy_L a n 1 (0 : Int32) 0 σ) else (qcall (fX1_startMonths σ v2) (fun _ σ32 => qlet (v2 + (1 : Int32)) (fun x35 => fX1_standBy_L a n 0 x35 0 σ32))) := by rw [fX1_standBy_L, if_pos rfl]
theorem sb1 (a : Int32) (n : Nat) (v2 v3 : Int32) (σ : St) : fX1_standBy_L a (n + 1) 1 v2 v3 σ = if (400 : Int32) ≤ v2 then (qlet (sI σ 36 9 a) (fun σ83 => some ((0 : Int32), σ83))) else (fX1_standBy_L a n 2 v2 (0 : Int32) σ) := by rw [fX1_standBy_L, if_neg (by decide), if_pos rfl]
theorem sb2 (a : Int32) (n : Nat) (v2 v3 : Int32) (σ : St) : fX1_standBy_L a (n + 1) 2 v2 v3 σ = if (σ.1 2 7) ≤ v3 then (qlet (v2 + (1 : Int32)) (fun x75 => fX1_standBy_L a n 1 x75 0 σ)) else (qcall (fX1_passEvening σ v3 v2) (fun _ σ66 => qlet (v3 + (1 : Int32)) (fun x69 => fX1_standBy_L a n 2 v2 x69 σ66))) := by rw [fX1_standBy_L, if_neg (by decide), if_neg (by decide)]
theorem go0 (a : Int32) (n : Nat) (v2 v3 : Int32) (σ : St) : fX6_goes_L a (n + 1) 0 v2 v3 σ = if (6 : Int32) ≤ v2 then (fX6_goes_L a n 1 (0 : Int32) 0 σ) else (qix v2 6 (qlet (sI σ 32 v2.toNatClampNeg (0 : Int32)) (fun σ28 => qlet (v2 + (1 : Int32)) (fun x29 => fX6_goes_L a n 0 x29 0 σ28)))) := by rw [fX6_goes_L, if_pos rfl]
theorem go1 (a : Int32) (n : Nat) (v2 v3 : Int32) (σ : St) : fX6_goes_L a (n + 1) 1 v2 v3 σ = if (400 : Int32) ≤ v2 then (some ((0 : Int32), σ)) else (fX6_goes_L a n 2 v2 (0 : Int32) σ) := by rw [fX6_goes_L, if_neg (by decide), if_pos rfl]
theorem go2 (a : Int32) (n : Nat) (v2 v3 : Int32) (σ : St) : fX6_goes_L a (n + 1) 2 v2 v3 σ = if (σ.1 0 37) ≤ v3 then (qlet (v2 + (1 : Int32)) (fun x67 => fX6_goes_L a n 1 x67 0 σ)) else (qcall (fX6_evening σ v3 v2 a) (fun _ σ58 => qlet (v3 + (1 : Int32)) (fun x61 => fX6_goes_L a n 2 v2 x61 σ58))) := by rw [fX6_goes_L, if_neg (by decide), if_neg (by decide)]
theorem run2 {mo la wn fn n d N N' : Nat} (hn : n ≤ fn) (hd : d < 400) : ∀ (j k : Nat) (σ μ : St), j + k = la → SimI σ μ mo la wn fn n → (∀ o, o < la → LandR σ μ o (if o < k then d + 1 else d)) → ∃ σ' μ', fX1_standBy_L (nI n) (N + 1 + j) 2 (nI d) (nI k) σ = fX1_standBy_L (nI n) N 1 (nI (d + 1)) 0 σ' ∧ fX6_goes_L (nI n) (N' + 1 + j) 2 (nI d) (nI k) μ = fX6_goes_L (nI n) N' 1 (nI (d + 1)) 0 μ' ∧ (∀ o, o < la → LandR σ' μ' o (d + 1)) ∧ KeepS σ σ' ∧ KeepG μ μ'
  | 0, k, σ, μ, ek, I, L => by
    obtain ⟨W, F, J, X⟩ := I
    have hla := W.2.1
    have : k = la := by omega
    subst this
    rw [show N + 1 + 0 = N + 1 by omega, show N' + 1 + 0 = N' + 1 by omega, sb2, go2, W.2.2.2.2.1, W.2.2.2.2.2.1, if_pos (nI_le (Nat.le_refl _) (by omega)), if_pos (nI_le (Nat.le_refl _) (by omega))]
    simp only [qlet, nI_1]
    exact ⟨σ, μ, rfl, rfl, fun o ho => by have := L o ho; rw [if_pos ho] at this; exact this, KeepS.rf σ, KeepG.rf μ⟩
  | j + 1, k, σ, μ, ek, I, L => by
    obtain ⟨W, F, J, X⟩ := id I
    have hla := W.2.1
    rw [show N + 1 + (j + 1) = (N + 1 + j) + 1 by omega, show N' + 1 + (j + 1) = (N' + 1 + j) + 1 by omega, sb2, go2, W.2.2.2.2.1, W.2.2.2.2.2.1, if_neg (nI_ge (by omega) (by omega)), if_neg (nI_ge (by omega) (by omega))]
    obtain ⟨σ1, μ1, a1, a2, a3, a4, a5⟩ := evening_R (E := fun o => if o < k then d + 1 else d) W F J hn (show k < la by omega) hd (fun o ho => ⟨by show (if o < k then d + 1 else d) ≤ 400; split <;> omega, L o ho⟩) (by show (if k < k then d + 1 else d) = d; rw [if_neg (by omega)]) (X k (by omega))
    rw [a1, a2, qcall_s, qcall_s]
    simp only [qlet, nI_1]
    obtain ⟨σ2, μ2, b1, b2, b3, b4, b5⟩ := run2 (N := N) (N' := N') hn hd j (k + 1) σ1 μ1 (by omega) (I.keep (a4.s (by omega)) a5.g) (fun o ho => by
      by_cases q : o = k
      · rw [q, if_pos (by omega)]
        exact a3
      · have := L o ho
        rw [show (if o < k + 1 then d + 1 else d) = (if o < k then d + 1 else d) by split <;> split <;> omega]
        exact this.congr2 (a4.2.2.1 o q) (fun i hi => a4.1 i (by omega) (by omega) (by omega) (by omega) (by omega) (by omega) (by omega)) (a5.1 24 (by omega)) (a5.2.1 o q) (fun i h1 h2 kk hk => a5.2.2.1 i h1 h2 o kk q hk))
    exact ⟨σ2, μ2, b1, b2, b3, (a4.s (by omega)).trans b4, a5.g.trans b5⟩
theorem run1 {mo la wn fn n : Nat} (hn : n ≤ fn) : ∀ (j d N N' : Nat) (σ μ : St), j + d = 400 → SimI σ μ mo la wn fn n → (∀ o, o < la → LandR σ μ o d) → ∃ σ' μ', fX1_standBy_L (nI n) (N + 1 + j * (la + 2)) 1 (nI d) 0 σ = some (0, σ') ∧ fX6_goes_L (nI n) (N' + 1 + j * (la + 2)) 1 (nI d) 0 μ = some (0, μ') ∧ (∀ o, o < la → LandR σ' μ' o 400) ∧ KeepS σ σ' ∧ KeepG μ μ' ∧ σ'.1 36 9 = nI n
  | 0, d, N, N', σ, μ, e, I, L => by
    have : d = 400 := by omega
    subst this
    rw [show N + 1 + 0 * (la + 2) = N + 1 by omega, show N' + 1 + 0 * (la + 2) = N' + 1 by omega, sb1, go1, if_pos (by decide), if_pos (by decide)]
    refine ⟨_, μ, rfl, rfl, fun o ho => ?_, ⟨fun i hi => sI_n _ _ _ _ (by omega), rfl⟩, KeepG.rf μ, by rw [sI_s, upd_s]⟩
    have hla := I.1.2.1
    exact (L o ho).congr (fun i hi => sI_n _ _ _ _ (by omega)) (fun _ _ => rfl)
  | j + 1, d, N, N', σ, μ, e, I, L => by
    have hla := I.1.2.1
    rw [show N + 1 + (j + 1) * (la + 2) = (N + 1 + j * (la + 2) + 1 + la) + 1 by rw [Nat.succ_mul]; omega, show N' + 1 + (j + 1) * (la + 2) = (N' + 1 + j * (la + 2) + 1 + la) + 1 by rw [Nat.succ_mul]; omega, sb1, go1, if_neg (show ¬ (400 : Int32) ≤ nI d from nI_ge (a := d) (b := 400) (by omega) (by omega)), if_neg (show ¬ (400 : Int32) ≤ nI d from nI_ge (a := d) (b := 400) (by omega) (by omega))]
    obtain ⟨σ1, μ1, a1, a2, a3, a4, a5⟩ := run2 (N := N + 1 + j * (la + 2)) (N' := N' + 1 + j * (la + 2)) hn (show d < 400 by omega) la 0 σ μ (by omega) I (fun o ho => by rw [if_neg (by omega)]; exact L o ho)
    rw [nI_0] at a1 a2
    rw [a1, a2]
    obtain ⟨σ2, μ2, b1, b2, b3, b4, b5, b6⟩ := run1 hn j (d + 1) N N' σ1 μ1 (by omega) (I.keep a4 a5) a3
    exact ⟨σ2, μ2, b1, b2, b3, a4.trans b4, a5.trans b5, b6⟩
