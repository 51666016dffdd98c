set_option maxHeartbeats 4000000 in
set_option maxRecDepth 100000 in
/-- YOUR PART: from the entry, for every script of at most 3072 ints, the law comes to its end with true -/
theorem whole_start {p : Program} {e : Env} {s : State} {m : MethodId} {below : List Frame} {meth : Method} {c : Code} (l : Launch) {b L : Nat} {xs : Nat → Int32} (hL : L ≤ 3072) (C0 : lw_At p s m meth c b L xs) : W p l e room_1 s m #[Value.ref b] below meth c s.heap [] 0 0 (lw_Z below #[Value.ref b] s) (entryFrame m ([Value.ref b] : List Value).toArray 4) := by
  obtain ⟨hx, hb, hr, hml, hown, hts, hX, hbl, hlocks, hgv⟩ := id C0
  obtain ⟨A, hAe⟩ : ∃ A : Nat → Prop, A = fun q : Nat => s.heap.size ≤ q := ⟨_, rfl⟩
  have hA : ∀ q : Nat, s.heap.size ≤ q → A q := fun q h => by rw [hAe]; exact h
  have hA2 : ∀ q : Nat, A q → s.heap.size ≤ q := fun q h => by rw [hAe] at h; exact h
  have hA3 : ∀ q : Nat, q < s.heap.size → ¬ A q := fun q h g => absurd (hA2 q g) (Nat.not_le.mpr h)
  obtain ⟨D, cy, hK⟩ := lw_K hts
  obtain ⟨zs, hE⟩ := lw_qE hA3 hts hgv
  have hI : iE s := ⟨hts _ tb_oab, hts _ tb_oai, hts _ tb_ot, va_tabs (A := #[Value.ref b]) (u := s) rfl rfl (hts _ tb_x3)⟩
  have hlw : lwX A b L xs s := ⟨hX, hbl, hA3 b hbl, hL⟩
  obtain ⟨μ0, hμ, I0⟩ := fresh
  have hD0 : va_D A ([] ++ [] : va_W) := ⟨fun i j p q h => by simp at h, fun k q h => by simp at h⟩
  have hP0 : va_P D vwCl ([] ++ [] : va_W) s.heap := fun k q h => by simp at h
  have C : qC ceC 0 (fun _ => 0) cy ([] ++ []) A D zs cL_law 4 RL wsL_law p s m #[Value.ref b] meth c ret := ⟨hx, hb, hml, hown, fun w h => hts w (wsL_law_in w h), hK, fun _ => hD0, hr, hlocks, hE⟩
  refine q_entry (ce := ceC) (N := 0) (ad := fun _ => 0) (cy := cy) (X := [] ++ []) (σ := iσ) (A := A) (Nat.le_of_ble_eq_true rfl) hP0 (lv := [(0, .ref b)]) rfl ?_
  refine i_new C hA (Cn := RX5) (T := TX5) (Nf := 10) (ci := 5) (ty0 := tyX5) nlX5 tyX5_ok hl7 hlI5 hlz5 rfl (fs := [.null, .int 0, .int 0, .null, .null, .null, .null, .null, .null, .null]) (fun j hj => by rcases (show j = 0 ∨ j = 1 ∨ j = 2 ∨ j = 3 ∨ j = 4 ∨ j = 5 ∨ j = 6 ∨ j = 7 ∨ j = 8 ∨ j = 9 by omega) with rfl | rfl | rfl | rfl | rfl | rfl | rfl | rfl | rfl | rfl <;> rfl) (Nat.le_of_ble_eq_true rfl) (Nat.le_of_ble_eq_true rfl) dL_law_0 (fun q0 C => ?_)
  refine q_dup C dL_law_3 rfl ?_
  refine i_callI C hA hI (mX5_init l D cy _ A zs q0) gL_law_X5_init rfl rfl rfl hlz5 hl9 hli5 rfl hyX5_init ⟨Nat.le_of_ble_eq_true rfl, Nat.le_of_ble_eq_true rfl⟩ (As := []) (rest := [.ref q0]) rfl rfl (Nat.le_of_ble_eq_true rfl) dL_law_4 ⟨Nat.le_of_ble_eq_true rfl, Nat.le_of_ble_eq_true rfl⟩ (fun u C => ?_)
  refine q_astore_n C dL_law_7 rfl (by decide) (lv' := [(0, .ref b), (1, .ref q0)]) rfl ?_
  refine i_new C hA (Cn := RX6) (T := TX6) (Nf := 60) (ci := 6) (ty0 := tyX6) nlX6 tyX6_ok hl10 hlI6 hlz6 rfl (fs := OM [] 0 0) fsX6 (Nat.le_of_ble_eq_true rfl) (Nat.le_of_ble_eq_true rfl) dL_law_8 (fun q1 C => ?_)
  refine q_dup C dL_law_11 rfl ?_
  refine i_callI C hA hI (mX6_init l D cy _ A zs q1 0 μ0 hμ) gL_law_X6_init rfl rfl rfl hlz6 hl12 hli6 rfl hyX6_init ⟨Nat.le_of_ble_eq_true rfl, Nat.le_of_ble_eq_true rfl⟩ (As := []) (rest := [.ref q1]) rfl rfl (Nat.le_of_ble_eq_true rfl) dL_law_12 ⟨Nat.le_of_ble_eq_true rfl, Nat.le_of_ble_eq_true rfl⟩ (fun v C => ?_)
  refine q_astore_n C dL_law_15 rfl (by decide) (lv' := [(0, .ref b), (1, .ref q0), (2, .ref q1)]) rfl ?_
  refine q_iconst C (v := 0) dL_law_16 (by decide) ?_
  refine q_istore_n C dL_law_17 rfl (by decide) (lv' := [(0, .ref b), (1, .ref q0), (2, .ref q1), (3, .int 0)]) rfl ?_
  refine i_toL C (fun adC h0 CZ => ?_)
  subst h0
  refine law_loop hlw ⟨Nat.le_of_ble_eq_true rfl, Nat.le_of_ble_eq_true rfl⟩ (fun σ μ lv H locs ls hP hS hl => ?_) (L + 1) 0 (by omega) (Nat.zero_le L) σ5 μ0 0 0 0 0 CZ I0
  refine lv_iconst hx hb dL_law_1052 (v := 1) (by decide) ?_
  refine va_forget (fun q hq => hA2 _ (hS.2.2 q hq)) ?_
  exact W.widen (Nat.le_of_ble_eq_true rfl) (Nat.le_of_ble_eq_true rfl) (lw_ret hx hb hr hlocks dL_law_1053)
