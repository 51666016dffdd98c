-- ===== rows for texts, copies, fills =====
section QTEXT
variable {ad : Nat → Nat} {cy : Nat → ClassId} {X : va_W} {A : Nat → Prop} {D : va_G} {p : Program} {l : Launch} {e : Env} {R : Room} {s : State} {m : MethodId} {args : Array Value} {below : List Frame} {meth : Method} {c : Code} {nL kc ks : Nat} {Q : State → Prop}
variable {cc : ByteArray} {own : String} {Ts : List Cond} {ret : Option FieldType} {zs : Nat × Nat × Option Nat} {pc : Nat} {lv lv' : List (Nat × Value)} {st : List Value} {σ : St}
theorem q_aaldT (C : qC ceC 96 ad cy X A D zs cc nL own Ts p s m args meth c ret) {i : Int32} {β : Type} {o : β} {b : Nat → Option β} (hd : decode cc pc = .ok (.aaload, 1)) (h : qix i 6 (qlet (σ.2.2 i.toNatClampNeg) (fun t => qtx t (b t))) = some o) (kk : ∀ t, t < 7 → b t = some o → qW ceC 96 ad cy X A D p l e R s m args below meth c nL kc ks Q (pc + 1) lv (.ref (ad (61 + 5 * t)) :: st) σ) : qW ceC 96 ad cy X A D p l e R s m args below meth c nL kc ks Q pc lv (.int i :: .ref (ad 33) :: st) σ :=
  q_aald C (id := 33) (t0 := 4) (by decide) (ceC_33 ad cy _ _ _) rfl rfl hd h (fun q => if_pos q) (fun _ h => kk _ (qtx_some h).1 (qtx_some h).2)
theorem q_getT (C : qC ceC 96 ad cy X A D zs cc nL own Ts p s m args meth c ret) {index : Nat} {β : Type} {o : β} {b : Nat → Option β} (hin : ∀ w ∈ u_ws RX5 TX5 10, w ∈ Ts) (hlink : Cond.fieldLink own index (TX5 6).1 (TX5 6).2.1 (TX5 6).2.2.1 ∈ Ts) (hd : decode cc pc = .ok (.getfield index, 3)) (h : qlet (σ.2.2 6) (fun t => qtx t (b t)) = some o) (kk : ∀ t, t < 7 → b t = some o → qW ceC 96 ad cy X A D p l e R s m args below meth c nL kc ks Q (pc + 3) lv (.ref (ad (61 + 5 * t)) :: st) σ) : qW ceC 96 ad cy X A D p l e R s m args below meth c nL kc ks Q pc lv (.ref (ad 0) :: st) σ :=
  q_get C (Cn := RX5) (T := TX5) (Nf := 10) (ci := 5) (id := 0) (k := 6) hin (by decide) (ceC_0 ad cy _ _ _) rfl (by decide) rfl hlink hd (kk _ (qtx_some h).1 (qtx_some h).2)
theorem ceC_T (ad : Nat → Nat) (cy : Nat → ClassId) (T T' : Nat → Nat) (f : Nat → Int32) (g : Nat → Int64) {j : Nat} (h0 : j ≠ 0) (h33 : j ≠ 33) : ceC ad cy T' j f g = ceC ad cy T j f g := by
  by_cases hj : j < 61
  · have h : ∀ j, j < 61 → j ≠ 0 → j ≠ 33 → ceC ad cy T' j f g = ceC ad cy T j f g := by
      intro j hj h0 h33
      match j, hj with
      | 0, _ => exact absurd rfl h0
      | 1, _ => rfl
      | 2, _ => rfl
      | 3, _ => rfl
      | 4, _ => rfl
      | 5, _ => rfl
      | 6, _ => rfl
      | 7, _ => rfl
      | 8, _ => rfl
      | 9, _ => rfl
      | 10, _ => rfl
      | 11, _ => rfl
      | 12, _ => rfl
      | 13, _ => rfl
      | 14, _ => rfl
      | 15, _ => rfl
      | 16, _ => rfl
      | 17, _ => rfl
      | 18, _ => rfl
      | 19, _ => rfl
      | 20, _ => rfl
      | 21, _ => rfl
      | 22, _ => rfl
      | 23, _ => rfl
      | 24, _ => rfl
      | 25, _ => rfl
      | 26, _ => rfl
      | 27, _ => rfl
      | 28, _ => rfl
      | 29, _ => rfl
      | 30, _ => rfl
      | 31, _ => rfl
      | 32, _ => rfl
      | 33, _ => exact absurd rfl h33
      | 34, _ => rfl
      | 35, _ => rfl
      | 36, _ => rfl
      | 37, _ => rfl
      | 38, _ => rfl
      | 39, _ => rfl
      | 40, _ => rfl
      | 41, _ => rfl
      | 42, _ => rfl
      | 43, _ => rfl
      | 44, _ => rfl
      | 45, _ => rfl
      | 46, _ => rfl
      | 47, _ => rfl
      | 48, _ => rfl
      | 49, _ => rfl
      | 50, _ => rfl
      | 51, _ => rfl
      | 52, _ => rfl
      | 53, _ => rfl
      | 54, _ => rfl
      | 55, _ => rfl
      | 56, _ => rfl
      | 57, _ => rfl
      | 58, _ => rfl
      | 59, _ => rfl
      | 60, _ => rfl
      | n + 61, h => exact absurd h (by omega)
    exact h j hj h0 h33
  · unfold ceC
    rw [if_neg hj, if_neg hj]
theorem q_aastT (C : qC ceC 96 ad cy X A D zs cc nL own Ts p s m args meth c ret) {i : Int32} {t : Nat} {β : Type} {o : β} {f : St → Option β} (ht : t < 7) (hd : decode cc pc = .ok (.aastore, 1)) (h : qix i 6 (qlet (sT σ i.toNatClampNeg t) f) = some o) (kk : ∀ σ, f σ = some o → qW ceC 96 ad cy X A D p l e R s m args below meth c nL kc ks Q (pc + 1) lv st σ) : qW ceC 96 ad cy X A D p l e R s m args below meth c nL kc ks Q pc lv (.ref (ad (61 + 5 * t)) :: .int i :: .ref (ad 33) :: st) σ := fun H locs ls hP hS hl => by
  have hin := (qix_some h).1
  have hlt : i.toNatClampNeg < 6 := Nat.not_le.mp fun q => hin (Or.inr q)
  refine va_astq C.1 C.2.1 C.2.2.2.2.2.1 hP (C.2.2.2.2.2.2.1 σ) hS 33 4 (61 + 5 * t) 3 (r := (RX3, TX3, 6)) ((qw_get (by decide)).trans (congrArg (fun z => some (ad 33, z)) (ceC_33 ad cy _ _ _))) rfl ((qw_get (by omega)).trans (congrArg (fun z => some (ad (61 + 5 * t), z)) (ceC_t0 ad cy _ _ _ t))) rfl hin hd (fun H1 locs1 hP1 hD1 hS1 => ?_)
  have hs : ∀ j, j ≠ 33 → ceC ad cy (sT σ i.toNatClampNeg t).2.2 j ((sT σ i.toNatClampNeg t).1 j) ((sT σ i.toNatClampNeg t).2.1 j) = ceC ad cy σ.2.2 j (σ.1 j) (σ.2.1 j) := fun j hj => by
    by_cases h0 : j = 0
    · subst h0
      rw [ceC_0, ceC_0]
      simp [sT, va_up, show ¬ (6 = i.toNatClampNeg) by omega]
    · exact ceC_T ad cy _ _ _ _ h0 hj
  have hf : (fun j => if j < 6 then some (ad (61 + 5 * (sT σ i.toNatClampNeg t).2.2 j)) else none) = va_up (fun j => if j < 6 then some (ad (61 + 5 * σ.2.2 j)) else none) i.toNatClampNeg (some (ad (61 + 5 * t))) := by
    funext j
    simp only [sT, va_up]
    by_cases q : j = i.toNatClampNeg
    · rw [if_pos q, if_pos (by omega), if_pos q]
    · rw [if_neg q, if_neg q]
  rw [qw_set (σ' := sT σ i.toNatClampNeg t) (by decide) hs (by rw [ceC_33, hf])] at hP1
  exact kk _ (qix_some h).2 H1 locs1 ls hP1 hS1 hl
theorem q_putT (C : qC ceC 96 ad cy X A D zs cc nL own Ts p s m args meth c ret) {t : Nat} {index : Nat} {β : Type} {o : Option β} {f : St → Option β} (ht : t < 7) (hin : ∀ w ∈ u_ws RX5 TX5 10, w ∈ Ts) (hlink : Cond.fieldLink own index (TX5 6).1 (TX5 6).2.1 (TX5 6).2.2.1 ∈ Ts) (hd : decode cc pc = .ok (.putfield index, 3)) (h : qlet (sT σ 6 t) f = o) (kk : ∀ σ, f σ = o → qW ceC 96 ad cy X A D p l e R s m args below meth c nL kc ks Q (pc + 3) lv st σ) : qW ceC 96 ad cy X A D p l e R s m args below meth c nL kc ks Q pc lv (.ref (ad (61 + 5 * t)) :: .ref (ad 0) :: st) σ := fun H locs ls hP hS hl => by
  refine va_put C.1 C.2.1 C.2.2.2.2.1 hin tyX5 tyX5_ok nmX5 C.2.2.2.1 C.2.2.2.2.2.1 hP (C.2.2.2.2.2.2.1 σ) hS 0 (v := .ref (ad (61 + 5 * t))) (ty := .object "CrescentCourt$Text") ((qw_get (by decide)).trans (congrArg (fun z => some (ad 0, z)) (ceC_0 ad cy _ _ _))) rfl 6 (by decide) (C.2.2.2.2.1 _ hlink) (fun _ h9 => h9) rfl (by decide +kernel) rfl rfl (Nat.le_of_ble_eq_true rfl) hd (fun H1 locs1 hP1 hD1 hS1 => ?_)
  have hf : (fun j => if j < 6 then some (ad (61 + 5 * (sT σ 6 t).2.2 j)) else none) = (fun j => if j < 6 then some (ad (61 + 5 * σ.2.2 j)) else none) := by
    funext j
    by_cases q : j < 6
    · rw [if_pos q, if_pos q]
      simp [sT, va_up, show ¬ (j = 6) by omega]
    · rw [if_neg q, if_neg q]
  have hs : ∀ j, j ≠ 0 → ceC ad cy (sT σ 6 t).2.2 j ((sT σ 6 t).1 j) ((sT σ 6 t).2.1 j) = ceC ad cy σ.2.2 j (σ.1 j) (σ.2.1 j) := fun j hj => by
    by_cases h0 : j = 33
    · subst h0
      rw [ceC_33, ceC_33, hf]
    · exact ceC_T ad cy _ _ _ _ hj h0
  rw [qw_set (σ' := sT σ 6 t) (by decide) hs (by rw [ceC_0]; rfl)] at hP1
  exact kk _ h H1 locs1 ls hP1 hS1 hl
end QTEXT
