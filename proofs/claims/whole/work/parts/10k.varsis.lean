theorem qlet_e {α β : Type} (e : α) (f : α → β) : qlet e f = f e := by
  unfold qlet
  exact Eq.refl _
theorem fX6_asks_e {μ : St} {l t d e m bm n : Nat} (hl : l < 6) (hm : m ≤ 13) (h32 : μ.1 32 l = nI (m + 1)) (h33 : μ.1 33 (16 * l + m) = nI bm) : fX6_asks μ (nI l) (nI d) (nI e) (nI t) (nI n) = fX6_asks_L (nI l) (nI d) (nI e) (nI t) (nI n) 100000 0 0 (sI μ 38 0 (nI d - nI bm)) := by
  unfold fX6_asks
  rw [qix_nI hl (by omega), nI_clamp (show l < 2 ^ 31 by omega), h32, show (16 : Int32) = nI 16 from rfl, pk_mul, nI_add, show 16 * l + (m + 1) = (16 * l + m) + 1 by omega, nI_m1, qlet_e, qix_nI (show 16 * l + m < 96 by omega) (by omega), qm_0, cl_0, nI_clamp (show 16 * l + m < 2 ^ 31 by omega), h33, qlet_e]
theorem fX6_asks_is {σ μ : St} {mo la wn fn n l t d e m bm : Nat} (W : InvW σ μ mo la) (F : InvF σ μ la wn fn) (hn : n ≤ fn) (hl : l < la) (ht : t ≤ 14) (hd : d < 400) (he : e < 400) (hm : m ≤ 13) (h32 : μ.1 32 l = nI (m + 1)) (h33 : μ.1 33 (16 * l + m) = nI bm) : ∃ μ', fX6_asks μ (nI l) (nI d) (nI e) (nI t) (nI n) = some (0, μ') ∧ KeepM μ μ' ∧ μ'.1 38 0 = nI d - nI bm ∧ μ'.1 38 1 = sS (seerS μ mo l (nI d) (nI e) n n) 12 ∧ μ'.1 38 2 = sW (seerS μ mo l (nI d) (nI e) n n) (fun w => worthS μ mo w (nI d) n) 12 ∧ μ'.1 38 3 = sB (seerS μ mo l (nI d) (nI e) n n) (fun w => worthS μ mo w (nI d) n) 12 ∧ μ'.1 38 4 = lightS μ mo l (nI e) ∧ μ'.1 38 5 = (by classical exact if cloudB μ l e n then 1 else 0) ∧ μ'.1 38 6 = othS μ l t (nI d) (nI e) la ∧ μ'.1 38 7 = nI t := by
  have hla := W.2.1
  rw [fX6_asks_e (show l < 6 by omega) hm h32 h33]
  exact fX6_asks_gen W F hn hl ht hd he hm h32 h33 100000 (by omega)
