-- ===== feed =====
def TapeR (σ μ : St) (n : Nat) : Prop := n ≤ 2000 ∧ σ.1 0 1 = nI n ∧ μ.1 0 2 = nI n ∧ ∀ k, k < n → σ.1 1 k = μ.1 1 k ∧ (σ.1 1 k).toInt8.toInt32 = σ.1 1 k
def KeepT (σ σ' : St) (f : Nat) : Prop := (∀ i, 2 ≤ i → σ'.1 i = σ.1 i) ∧ (∀ i, i ≠ f → σ'.1 0 i = σ.1 0 i) ∧ σ'.2 = σ.2
theorem KeepT.trans {a b c : St} {f : Nat} (h : KeepT a b f) (g : KeepT b c f) : KeepT a c f := ⟨fun i hi => (g.1 i hi).trans (h.1 i hi), fun i hi => (g.2.1 i hi).trans (h.2.1 i hi), g.2.2.trans h.2.2⟩
theorem put_keep (σ : St) (n f : Nat) (b v : Int32) : KeepT σ (sI (sI σ 1 n b) 0 f v) f := ⟨fun i hi => by rw [sI_n _ _ _ _ (by omega), sI_n _ _ _ _ (by omega)], fun i hi => by rw [sI_s, upd_n _ _ hi, sI_n _ _ _ _ (by omega)], rfl⟩
theorem put1 {σ μ : St} {n : Nat} {v : Int32} (a : Int32) (R : TapeR σ μ n) (hn : n < 2000) (hv : ¬ v < 0) : ∃ σ1 μ1, (∀ N, fX5_putBytes_L a (N + 1) v σ = fX5_putBytes_L a N (v + -8) σ1) ∧ (∀ N, fX6_put_L a (N + 1) v μ = fX6_put_L a N (v + -8) μ1) ∧ TapeR σ1 μ1 (n + 1) ∧ KeepT σ σ1 1 ∧ KeepT μ μ1 2 := by
  obtain ⟨r1, r2, r3, r4⟩ := R
  have hb : ∀ x : Int32, vp_nar .byte x.toInt8.toInt32 = x.toInt8.toInt32 := fun x => by rw [vp_nar_byte, fb_byte_twice]
  refine ⟨sI (sI σ 1 n (a >>> (v &&& 31)).toInt8.toInt32) 0 1 (nI (n + 1)), sI (sI μ 1 n (a >>> (v &&& 31)).toInt8.toInt32) 0 2 (nI (n + 1)), fun N => ?_, fun N => ?_, ⟨by omega, by rw [sI_s, upd_s], by rw [sI_s, upd_s], fun k hk => ?_⟩, put_keep _ _ _ _ _, put_keep _ _ _ _ _⟩
  · rw [fX5_putBytes_L, if_neg hv]
    simp only [qlet, r2]
    rw [if_neg (show ¬ (2000 : Int32) ≤ nI n from nI_ge (a := n) (b := 2000) hn (by omega)), qix_nI hn (by omega), nI_clamp (by omega), hb, sI_n _ _ _ _ (show (0 : Nat) ≠ 1 by omega), r2, nI_1]
  · rw [fX6_put_L, if_neg hv]
    simp only [qlet, r3]
    rw [qix_nI hn (by omega), nI_clamp (by omega), hb, sI_n _ _ _ _ (show (0 : Nat) ≠ 1 by omega), r3, nI_1]
  · rw [sI_n _ _ _ _ (by omega), sI_s, sI_n _ _ _ _ (by omega), sI_s]
    by_cases q : k = n
    · rw [q, upd_s, upd_s]
      exact ⟨rfl, fb_byte_twice _⟩
    · rw [upd_n _ _ q, upd_n _ _ q]
      exact r4 k (by omega)
theorem put4g {σ μ : St} {n : Nat} (a : Int32) (R : TapeR σ μ n) (hn : n + 4 ≤ 2000) (N N' : Nat) : ∃ σ1 μ1, fX5_putBytes_L a (N + 5) 24 σ = some (0, σ1) ∧ fX6_put_L a (N' + 5) 24 μ = some (0, μ1) ∧ TapeR σ1 μ1 (n + 4) ∧ KeepT σ σ1 1 ∧ KeepT μ μ1 2 := by
  obtain ⟨s1, m1, a1, b1, c1, d1, e1⟩ := put1 (v := 24) a R (by omega) (by decide)
  obtain ⟨s2, m2, a2, b2, c2, d2, e2⟩ := put1 (v := 16) a c1 (by omega) (by decide)
  obtain ⟨s3, m3, a3, b3, c3, d3, e3⟩ := put1 (v := 8) a c2 (by omega) (by decide)
  obtain ⟨s4, m4, a4, b4, c4, d4, e4⟩ := put1 (v := 0) a c3 (by omega) (by decide)
  rw [show (24 : Int32) + -8 = 16 by decide] at a1 b1
  rw [show (16 : Int32) + -8 = 8 by decide] at a2 b2
  rw [show (8 : Int32) + -8 = 0 by decide] at a3 b3
  refine ⟨s4, m4, ?_, ?_, c4, ((d1.trans d2).trans d3).trans d4, ((e1.trans e2).trans e3).trans e4⟩
  · rw [a1 (N + 4), a2 (N + 3), a3 (N + 2), a4 (N + 1), fX5_putBytes_L, if_pos (by decide)]
  · rw [b1 (N' + 4), b2 (N' + 3), b3 (N' + 2), b4 (N' + 1), fX6_put_L, if_pos (by decide)]
theorem put4 {σ μ : St} {n : Nat} (a : Int32) (R : TapeR σ μ n) (hn : n + 4 ≤ 2000) : ∃ σ1 μ1, fX5_putBytes σ a = some (0, σ1) ∧ fX6_put μ a = some (0, μ1) ∧ TapeR σ1 μ1 (n + 4) ∧ KeepT σ σ1 1 ∧ KeepT μ μ1 2 := by
  unfold fX5_putBytes fX6_put
  exact put4g a R hn 99995 99995
theorem p_feed {σ μ : St} {mo la wn fn : Nat} (I : Inv σ μ mo la wn fn) (a1 a2 a3 a4 a5 : Int32) : ∃ r σ' μ', fX5_feed σ a1 a2 a3 a4 a5 = some (r, σ') ∧ fX6_feed μ a1 a2 a3 a4 a5 = some (r, μ') ∧ Inv σ' μ' mo la wn fn := by
  obtain ⟨W, F, ⟨n, hn, t1, t2, t3⟩, -⟩ := id I
  unfold fX5_feed fX6_feed
  rw [t1, t2, show (20 : Int32) = nI 20 from rfl, nI_add]
  by_cases h : n + 20 ≤ 2000
  · rw [if_pos (show nI (n + 20) ≤ 2000 from nI_le (b := 2000) h (by omega)), if_pos (show nI (n + 20) ≤ 2000 from nI_le (b := 2000) h (by omega))]
    obtain ⟨s1, m1, p1, q1, r1, k1, l1⟩ := put4 a1 (⟨hn, t1, t2, t3⟩ : TapeR σ μ n) (by omega)
    obtain ⟨s2, m2, p2, q2, r2, k2, l2⟩ := put4 a2 r1 (by omega)
    obtain ⟨s3, m3, p3, q3, r3, k3, l3⟩ := put4 a3 r2 (by omega)
    obtain ⟨s4, m4, p4, q4, r4, k4, l4⟩ := put4 a4 r3 (by omega)
    obtain ⟨s5, m5, p5, q5, r5, k5, l5⟩ := put4 a5 r4 (by omega)
    rw [p1, q1, qcall_s, qcall_s, p2, q2, qcall_s, qcall_s, p3, q3, qcall_s, qcall_s, p4, q4, qcall_s, qcall_s, p5, q5, qcall_s, qcall_s, r5.2.1, r5.2.2.1]
    have k := (((k1.trans k2).trans k3).trans k4).trans k5
    have l := (((l1.trans l2).trans l3).trans l4).trans l5
    exact ⟨_, s5, m5, rfl, rfl, I.tape ⟨_, r5⟩ k.1 (k.2.1 2 (by omega)) k.2.2 l.1 (fun i hi => l.2.1 i hi) l.2.2⟩
  · rw [if_neg (show ¬ nI (n + 20) ≤ 2000 from nI_ge (a := 2000) (by omega) (by omega)), if_neg (show ¬ nI (n + 20) ≤ 2000 from nI_ge (a := 2000) (by omega) (by omega))]
    exact ⟨_, σ, μ, rfl, rfl, I⟩
