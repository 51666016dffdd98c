abbrev rmX6_put : Room := { frames := 0, cells := 0, slots := 0, locals := 0 }
theorem hyX6_put : yX6_put.cls = RX6 ∧ yX6_put.cls ≠ "java/lang/invoke/MethodHandle" ∧ yX6_put.cls ≠ "java/lang/invoke/VarHandle" ∧ (parseMethodDescriptor yX6_put.desc).map (fun d => d.parameters.length) = some 1 := by decide +kernel
theorem nX6_put_X6 : ∀ w ∈ u_ws RX6 TX6 60, w ∈ wsX6_put := by decide +kernel
theorem hX6_put_13 : Cond.fieldLink RX6 13 (TX6 1).1 (TX6 1).2.1 (TX6 1).2.2.1 ∈ wsX6_put := by decide +kernel
theorem hX6_put_150 : Cond.fieldLink RX6 150 (TX6 2).1 (TX6 2).2.1 (TX6 2).2.2.1 ∈ wsX6_put := by decide +kernel
def fX6_put_L (a1 : Int32) : Nat → Int32 → St → Option (Int32 × St)
  | 0, _, _ => none
  | n + 1, v2, σ => if v2 < (0 : Int32) then (some ((0 : Int32), σ)) else (qix (σ.1 0 2) 2000 (qlet (sI σ 1 (σ.1 0 2).toNatClampNeg (vp_nar .byte (a1 >>> (v2 &&& 31)).toInt8.toInt32)) (fun σ19 => qlet (sI σ19 0 2 ((σ19.1 0 2) + (1 : Int32))) (fun σ27 => qlet (v2 + (-8 : Int32)) (fun x30 => fX6_put_L a1 n x30 σ27)))))
def fX6_put (σ : St) (a1 : Int32) : Option (Int32 × St) := fX6_put_L a1 100000 (24 : Int32) σ
set_option maxHeartbeats 4000000 in
set_option maxRecDepth 100000 in
theorem kX6_put_L {ad : Nat → Nat} {cy : Nat → ClassId} {X : va_W} {A : Nat → Prop} {D : va_G} {zs : Nat × Nat × Option Nat} {p : Program} {l : Launch} {e : Env} {s : State} {m : MethodId} {args : Array Value} {below : List Frame} {meth : Method} {c : Code} {a1 : Int32} (C : qC ceM 42 ad cy X A D zs cX6_put 3 RX6 wsX6_put p s m args meth c none) (r0 : Int32) (σ0 : St) (n : Nat) : (∀ (v2 : Int32) (σ : St), fX6_put_L a1 n v2 σ = some (r0, σ0) → qVv ceM 42 ad cy X A D p l e (headSpec wsX6_put rmX6_put).room s m args below meth c 3 r0 σ0 3 [(0, .ref (ad 0)), (1, .int a1), (2, .int v2)] [] σ) := by
  induction n with
  | zero =>
    intro v2 σ h; cases h
  | succ n ih =>
    intro v2 σ h
    rw [fX6_put_L] at h
    refine q_iload_n C dX6_put_3 rfl 2 rfl ?_
    refine q_if_lt C (tgt := 36) dX6_put_4 (by decide) h (fun h => ?_) (fun h => ?_)
    · exact q_vret C (r0 := r0) rfl dX6_put_36 h
    · refine q_aload_n C dX6_put_7 rfl 0 rfl ?_
      refine q_get C (Cn := RX6) (T := TX6) (Nf := 60) (ci := 6) (id := 0) (k := 1) (v := .ref (ad 1)) nX6_put_X6 (by decide) (ceM_0 ad cy _ _ _) rfl (by decide) rfl hX6_put_13 dX6_put_8 ?_
      refine q_aload_n C dX6_put_11 rfl 0 rfl ?_
      refine q_get C (Cn := RX6) (T := TX6) (Nf := 60) (ci := 6) (id := 0) (k := 2) (v := .int (σ.1 0 2)) nX6_put_X6 (by decide) (ceM_0 ad cy _ _ _) rfl (by decide) rfl hX6_put_150 dX6_put_12 ?_
      refine q_iload_n C dX6_put_15 rfl 1 rfl ?_
      refine q_iload_n C dX6_put_16 rfl 2 rfl ?_
      refine q_ishr C dX6_put_17 ?_
      refine q_i2b C dX6_put_18 ?_
      refine q_bast C (id := 1) (by decide) (fun f g => ceM_1 ad cy _ f g) dX6_put_19 h (fun σ19 h => ?_)
      refine q_aload_n C dX6_put_20 rfl 0 rfl ?_
      refine q_dup C dX6_put_21 rfl ?_
      refine q_get C (Cn := RX6) (T := TX6) (Nf := 60) (ci := 6) (id := 0) (k := 2) (v := .int (σ19.1 0 2)) nX6_put_X6 (by decide) (ceM_0 ad cy _ _ _) rfl (by decide) rfl hX6_put_150 dX6_put_22 ?_
      refine q_iconst C (v := 1) dX6_put_25 (by decide) ?_
      refine q_iadd C dX6_put_26 ?_
      refine q_put C (Cn := RX6) (T := TX6) (ty0 := tyX6) (Nf := 60) (ci := 6) (id := 0) (k := 2) (y := 0) tyX6_ok nmX6 nX6_put_X6 (by decide) (ceM_0 ad cy _ _ _) (ceM_0 ad cy _ _ _) rfl (by decide) rfl (by decide +kernel) (Nat.le_of_ble_eq_true rfl) hX6_put_150 dX6_put_27 h (fun σ27 h => ?_)
      refine q_iincL C dX6_put_30 2 rfl (by decide) (nv := -8) (by decide) h (lw := fun x30 => [(0, .ref (ad 0)), (1, .int a1), (2, .int x30)]) (fun _ => rfl) (fun x30 h => ?_)
      refine q_goto C (tgt := 3) dX6_put_33 (by decide) ?_
      exact q_sub [0, 1, 2] rfl (ih x30 σ27 h)
set_option maxHeartbeats 4000000 in
set_option maxRecDepth 100000 in
theorem kX6_put (l : Launch) (D : va_G) (ad : Nat → Nat) (cy : Nat → ClassId) (X : va_W) (A : Nat → Prop) (zs : Nat × Nat × Option Nat) (σ : St) (a1 : Int32) (r0 : Int32) (σ0 : St) (h : fX6_put σ a1 = some (r0, σ0)) : Met l yX6_put wsX6_put rmX6_put (qPc ceM 42 ad cy X A D zs [.ref (ad 0), .int a1] σ) (qQv ceM 42 ad cy X A D σ0) 0 0 A := by
  refine Met.ofW (cc := cX6_put) (maxL := 3) (ret := none) (by decide) rfl ?_
  intro p e s m args below meth c s₁ B hml hv
  obtain ⟨ha, hP, hK, hE, hD⟩ := hv
  have C : qC ceM 42 ad cy X A D zs cX6_put 3 RX6 wsX6_put p s m args meth c none := ⟨B.exec, B.bytes, hml, findClass_of_methodNamed B.named, atoms_spec (ws := wsX6_put) B.pre, hK, hD, B.returns, B.notSynchronized, hE⟩
  rw [show entryFrame m args 3 = entryFrame m ([.ref (ad 0), .int a1] : List Value).toArray 3 by rw [ha]]
  refine q_entry (A := A) (Nat.le_of_ble_eq_true rfl) hP (lv := [(0, .ref (ad 0)), (1, .int a1)]) rfl ?_
  unfold fX6_put at h
  refine q_bipush C (v := 24) dX6_put_0 (by decide) ?_
  refine q_istore_n C dX6_put_2 rfl (by decide) (lv' := [(0, .ref (ad 0)), (1, .int a1), (2, .int (24 : Int32))]) rfl ?_
  exact q_sub [0, 1, 2] rfl ((kX6_put_L C r0 σ0 100000) (24 : Int32) σ h)
abbrev rmX6_feed : Room := { frames := 1, cells := 0, slots := 0, locals := 22 }
theorem hyX6_feed : yX6_feed.cls = RX6 ∧ yX6_feed.cls ≠ "java/lang/invoke/MethodHandle" ∧ yX6_feed.cls ≠ "java/lang/invoke/VarHandle" ∧ (parseMethodDescriptor yX6_feed.desc).map (fun d => d.parameters.length) = some 5 := by decide +kernel
theorem nX6_feed_X6 : ∀ w ∈ u_ws RX6 TX6 60, w ∈ wsX6_feed := by decide +kernel
theorem hX6_feed_150 : Cond.fieldLink RX6 150 (TX6 2).1 (TX6 2).2.1 (TX6 2).2.2.1 ∈ wsX6_feed := by decide +kernel
def fX6_feed (σ : St) (a1 : Int32) (a2 : Int32) (a3 : Int32) (a4 : Int32) (a5 : Int32) : Option (Int32 × St) := if ((σ.1 0 2) + (20 : Int32)) ≤ (2000 : Int32) then (qcall (fX6_put σ a1) (fun _ σ17 => qcall (fX6_put σ17 a2) (fun _ σ22 => qcall (fX6_put σ22 a3) (fun _ σ27 => qcall (fX6_put σ27 a4) (fun _ σ33 => qcall (fX6_put σ33 a5) (fun _ σ39 => some ((σ39.1 0 2), σ39))))))) else (some ((-1 : Int32), σ))
set_option maxHeartbeats 4000000 in
set_option maxRecDepth 100000 in
theorem kX6_feed (l : Launch) (D : va_G) (ad : Nat → Nat) (cy : Nat → ClassId) (X : va_W) (A : Nat → Prop) (zs : Nat × Nat × Option Nat) (σ : St) (a1 : Int32) (a2 : Int32) (a3 : Int32) (a4 : Int32) (a5 : Int32) (r0 : Int32) (σ0 : St) (h : fX6_feed σ a1 a2 a3 a4 a5 = some (r0, σ0)) : Met l yX6_feed wsX6_feed rmX6_feed (qPc ceM 42 ad cy X A D zs [.ref (ad 0), .int a1, .int a2, .int a3, .int a4, .int a5] σ) (qQi ceM 42 ad cy X A D r0 σ0) 0 0 A := by
  refine Met.ofW (cc := cX6_feed) (maxL := 6) (ret := (some .int)) (by decide) rfl ?_
  intro p e s m args below meth c s₁ B hml hv
  obtain ⟨ha, hP, hK, hE, hD⟩ := hv
  have C : qC ceM 42 ad cy X A D zs cX6_feed 6 RX6 wsX6_feed p s m args meth c (some .int) := ⟨B.exec, B.bytes, hml, findClass_of_methodNamed B.named, atoms_spec (ws := wsX6_feed) B.pre, hK, hD, B.returns, B.notSynchronized, hE⟩
  rw [show entryFrame m args 6 = entryFrame m ([.ref (ad 0), .int a1, .int a2, .int a3, .int a4, .int a5] : List Value).toArray 6 by rw [ha]]
  refine q_entry (A := A) (Nat.le_of_ble_eq_true rfl) hP (lv := [(0, .ref (ad 0)), (1, .int a1), (2, .int a2), (3, .int a3), (4, .int a4), (5, .int a5)]) rfl ?_
  unfold fX6_feed at h
  refine q_aload_n C dX6_feed_0 rfl 0 rfl ?_
  refine q_get C (Cn := RX6) (T := TX6) (Nf := 60) (ci := 6) (id := 0) (k := 2) (v := .int (σ.1 0 2)) nX6_feed_X6 (by decide) (ceM_0 ad cy _ _ _) rfl (by decide) rfl hX6_feed_150 dX6_feed_1 ?_
  refine q_bipush C (v := 20) dX6_feed_4 (by decide) ?_
  refine q_iadd C dX6_feed_6 ?_
  refine q_sipush C (v := 2000) dX6_feed_7 (by decide) ?_
  refine q_icmp_le C (tgt := 15) dX6_feed_10 (by decide) h (fun h => ?_) (fun h => ?_)
  · refine q_aload_n C dX6_feed_15 rfl 0 rfl ?_
    refine q_iload_n C dX6_feed_16 rfl 1 rfl ?_
    refine q_callVv C (rm := rmX6_put) (As := [.int a1]) (rest := []) (id := 0) (ci := 6) (fun r9 σ9 h9 => kX6_put l D ad cy X A zs σ a1 r9 σ9 h9) gX6_feed_X6_put rfl rfl rfl hyX6_put ⟨Nat.le_of_ble_eq_true rfl, Nat.le_of_ble_eq_true rfl⟩ (by decide) (ceM_0 ad cy _ _ _) rfl rfl rfl (Nat.le_of_ble_eq_true rfl) dX6_feed_17 ⟨Nat.zero_le _, Nat.zero_le _⟩ h (fun r17 σ17 h => ?_)
    refine q_aload_n C dX6_feed_20 rfl 0 rfl ?_
    refine q_iload_n C dX6_feed_21 rfl 2 rfl ?_
    refine q_callVv C (rm := rmX6_put) (As := [.int a2]) (rest := []) (id := 0) (ci := 6) (fun r9 σ9 h9 => kX6_put l D ad cy X A zs σ17 a2 r9 σ9 h9) gX6_feed_X6_put rfl rfl rfl hyX6_put ⟨Nat.le_of_ble_eq_true rfl, Nat.le_of_ble_eq_true rfl⟩ (by decide) (ceM_0 ad cy _ _ _) rfl rfl rfl (Nat.le_of_ble_eq_true rfl) dX6_feed_22 ⟨Nat.zero_le _, Nat.zero_le _⟩ h (fun r22 σ22 h => ?_)
    refine q_aload_n C dX6_feed_25 rfl 0 rfl ?_
    refine q_iload_n C dX6_feed_26 rfl 3 rfl ?_
    refine q_callVv C (rm := rmX6_put) (As := [.int a3]) (rest := []) (id := 0) (ci := 6) (fun r9 σ9 h9 => kX6_put l D ad cy X A zs σ22 a3 r9 σ9 h9) gX6_feed_X6_put rfl rfl rfl hyX6_put ⟨Nat.le_of_ble_eq_true rfl, Nat.le_of_ble_eq_true rfl⟩ (by decide) (ceM_0 ad cy _ _ _) rfl rfl rfl (Nat.le_of_ble_eq_true rfl) dX6_feed_27 ⟨Nat.zero_le _, Nat.zero_le _⟩ h (fun r27 σ27 h => ?_)
    refine q_aload_n C dX6_feed_30 rfl 0 rfl ?_
    refine q_iload C dX6_feed_31 4 rfl ?_
    refine q_callVv C (rm := rmX6_put) (As := [.int a4]) (rest := []) (id := 0) (ci := 6) (fun r9 σ9 h9 => kX6_put l D ad cy X A zs σ27 a4 r9 σ9 h9) gX6_feed_X6_put rfl rfl rfl hyX6_put ⟨Nat.le_of_ble_eq_true rfl, Nat.le_of_ble_eq_true rfl⟩ (by decide) (ceM_0 ad cy _ _ _) rfl rfl rfl (Nat.le_of_ble_eq_true rfl) dX6_feed_33 ⟨Nat.zero_le _, Nat.zero_le _⟩ h (fun r33 σ33 h => ?_)
    refine q_aload_n C dX6_feed_36 rfl 0 rfl ?_
    refine q_iload C dX6_feed_37 5 rfl ?_
    refine q_callVv C (rm := rmX6_put) (As := [.int a5]) (rest := []) (id := 0) (ci := 6) (fun r9 σ9 h9 => kX6_put l D ad cy X A zs σ33 a5 r9 σ9 h9) gX6_feed_X6_put rfl rfl rfl hyX6_put ⟨Nat.le_of_ble_eq_true rfl, Nat.le_of_ble_eq_true rfl⟩ (by decide) (ceM_0 ad cy _ _ _) rfl rfl rfl (Nat.le_of_ble_eq_true rfl) dX6_feed_39 ⟨Nat.zero_le _, Nat.zero_le _⟩ h (fun r39 σ39 h => ?_)
    refine q_aload_n C dX6_feed_42 rfl 0 rfl ?_
    refine q_get C (Cn := RX6) (T := TX6) (Nf := 60) (ci := 6) (id := 0) (k := 2) (v := .int (σ39.1 0 2)) nX6_feed_X6 (by decide) (ceM_0 ad cy _ _ _) rfl (by decide) rfl hX6_feed_150 dX6_feed_43 ?_
    exact q_iret C rfl dX6_feed_46 h
  · refine q_iconst C (v := -1) dX6_feed_13 (by decide) ?_
    exact q_iret C rfl dX6_feed_14 h
abbrev rmX6_back : Room := { frames := 0, cells := 0, slots := 0, locals := 0 }
theorem hyX6_back : yX6_back.cls = RX6 ∧ yX6_back.cls ≠ "java/lang/invoke/MethodHandle" ∧ yX6_back.cls ≠ "java/lang/invoke/VarHandle" ∧ (parseMethodDescriptor yX6_back.desc).map (fun d => d.parameters.length) = some 1 := by decide +kernel
theorem nX6_back_X6 : ∀ w ∈ u_ws RX6 TX6 60, w ∈ wsX6_back := fun w h => List.mem_cons_of_mem _ (List.mem_append_right _ h)
theorem hX6_back_150 : Cond.fieldLink RX6 150 (TX6 2).1 (TX6 2).2.1 (TX6 2).2.2.1 ∈ wsX6_back := by decide +kernel
def fX6_back (σ : St) (a1 : Int32) : Option (Int32 × St) := qlet (fun (y12 : Unit) => (some ((-1 : Int32), σ))) (fun j12 => (if a1 < (0 : Int32) then (j12 ()) else (if a1 ≤ (σ.1 0 2) then (qlet (sI σ 0 2 ((σ.1 0 2) - a1)) (fun σ21 => some ((σ21.1 0 2), σ21))) else (j12 ()))))
set_option maxHeartbeats 4000000 in
set_option maxRecDepth 100000 in
theorem kX6_back (l : Launch) (D : va_G) (ad : Nat → Nat) (cy : Nat → ClassId) (X : va_W) (A : Nat → Prop) (zs : Nat × Nat × Option Nat) (σ : St) (a1 : Int32) (r0 : Int32) (σ0 : St) (h : fX6_back σ a1 = some (r0, σ0)) : Met l yX6_back wsX6_back rmX6_back (qPc ceM 42 ad cy X A D zs [.ref (ad 0), .int a1] σ) (qQi ceM 42 ad cy X A D r0 σ0) 0 0 A := by
  refine Met.ofW (cc := cX6_back) (maxL := 2) (ret := (some .int)) (by decide) rfl ?_
  intro p e s m args below meth c s₁ B hml hv
  obtain ⟨ha, hP, hK, hE, hD⟩ := hv
  have C : qC ceM 42 ad cy X A D zs cX6_back 2 RX6 wsX6_back p s m args meth c (some .int) := ⟨B.exec, B.bytes, hml, findClass_of_methodNamed B.named, atoms_spec (ws := wsX6_back) B.pre, hK, hD, B.returns, B.notSynchronized, hE⟩
  rw [show entryFrame m args 2 = entryFrame m ([.ref (ad 0), .int a1] : List Value).toArray 2 by rw [ha]]
  refine q_entry (A := A) (Nat.le_of_ble_eq_true rfl) hP (lv := [(0, .ref (ad 0)), (1, .int a1)]) rfl ?_
  unfold fX6_back at h
  refine q_iload_n C dX6_back_0 rfl 1 rfl ?_
  refine q_join (G := fun (y12 : Unit) => qVi ceM 42 ad cy X A D p l e (headSpec wsX6_back rmX6_back).room s m args below meth c 2 r0 σ0 12 [] [] σ) h (fun y12 h => ?_) (fun j12 hj12 h => ?_)
  · refine q_iconst C (v := -1) dX6_back_12 (by decide) ?_
    exact q_iret C rfl dX6_back_13 h
  refine q_if_lt C (tgt := 12) dX6_back_1 (by decide) h (fun h => ?_) (fun h => ?_)
  · exact q_sub [] rfl (hj12 () h)
  · refine q_iload_n C dX6_back_4 rfl 1 rfl ?_
    refine q_aload_n C dX6_back_5 rfl 0 rfl ?_
    refine q_get C (Cn := RX6) (T := TX6) (Nf := 60) (ci := 6) (id := 0) (k := 2) (v := .int (σ.1 0 2)) nX6_back_X6 (by decide) (ceM_0 ad cy _ _ _) rfl (by decide) rfl hX6_back_150 dX6_back_6 ?_
    refine q_icmp_le C (tgt := 14) dX6_back_9 (by decide) h (fun h => ?_) (fun h => ?_)
    · refine q_aload_n C dX6_back_14 rfl 0 rfl ?_
      refine q_dup C dX6_back_15 rfl ?_
      refine q_get C (Cn := RX6) (T := TX6) (Nf := 60) (ci := 6) (id := 0) (k := 2) (v := .int (σ.1 0 2)) nX6_back_X6 (by decide) (ceM_0 ad cy _ _ _) rfl (by decide) rfl hX6_back_150 dX6_back_16 ?_
      refine q_iload_n C dX6_back_19 rfl 1 rfl ?_
      refine q_isub C dX6_back_20 ?_
      refine q_put C (Cn := RX6) (T := TX6) (ty0 := tyX6) (Nf := 60) (ci := 6) (id := 0) (k := 2) (y := 0) tyX6_ok nmX6 nX6_back_X6 (by decide) (ceM_0 ad cy _ _ _) (ceM_0 ad cy _ _ _) rfl (by decide) rfl (by decide +kernel) (Nat.le_of_ble_eq_true rfl) hX6_back_150 dX6_back_21 h (fun σ21 h => ?_)
      refine q_aload_n C dX6_back_24 rfl 0 rfl ?_
      refine q_get C (Cn := RX6) (T := TX6) (Nf := 60) (ci := 6) (id := 0) (k := 2) (v := .int (σ21.1 0 2)) nX6_back_X6 (by decide) (ceM_0 ad cy _ _ _) rfl (by decide) rfl hX6_back_150 dX6_back_25 ?_
      exact q_iret C rfl dX6_back_28 h
    · exact q_sub [] rfl (hj12 () h)
abbrev rmX6_at : Room := { frames := 0, cells := 0, slots := 0, locals := 0 }
theorem hyX6_at : yX6_at.cls = RX6 ∧ yX6_at.cls ≠ "java/lang/invoke/MethodHandle" ∧ yX6_at.cls ≠ "java/lang/invoke/VarHandle" ∧ (parseMethodDescriptor yX6_at.desc).map (fun d => d.parameters.length) = some 1 := by decide +kernel
theorem nX6_at_X6 : ∀ w ∈ u_ws RX6 TX6 60, w ∈ wsX6_at := by decide +kernel
theorem hX6_at_157 : Cond.fieldLink RX6 157 (TX6 4).1 (TX6 4).2.1 (TX6 4).2.2.1 ∈ wsX6_at := by decide +kernel
theorem hX6_at_17 : Cond.fieldLink RX6 17 (TX6 3).1 (TX6 3).2.1 (TX6 3).2.2.1 ∈ wsX6_at := by decide +kernel
def fX6_at (σ : St) (a1 : Int32) : Option (Int32 × St) := qlet (fun (y22 : Int32) => (some (y22, σ))) (fun j22 => (if (σ.1 0 4) ≤ a1 then (j22 (0 : Int32)) else (qix a1 2000 (j22 ((σ.1 2 a1.toNatClampNeg) &&& (255 : Int32))))))
set_option maxHeartbeats 4000000 in
set_option maxRecDepth 100000 in
theorem kX6_at (l : Launch) (D : va_G) (ad : Nat → Nat) (cy : Nat → ClassId) (X : va_W) (A : Nat → Prop) (zs : Nat × Nat × Option Nat) (σ : St) (a1 : Int32) (r0 : Int32) (σ0 : St) (h : fX6_at σ a1 = some (r0, σ0)) : Met l yX6_at wsX6_at rmX6_at (qPc ceM 42 ad cy X A D zs [.ref (ad 0), .int a1] σ) (qQi ceM 42 ad cy X A D r0 σ0) 0 0 A := by
  refine Met.ofW (cc := cX6_at) (maxL := 2) (ret := (some .int)) (by decide) rfl ?_
  intro p e s m args below meth c s₁ B hml hv
  obtain ⟨ha, hP, hK, hE, hD⟩ := hv
  have C : qC ceM 42 ad cy X A D zs cX6_at 2 RX6 wsX6_at p s m args meth c (some .int) := ⟨B.exec, B.bytes, hml, findClass_of_methodNamed B.named, atoms_spec (ws := wsX6_at) B.pre, hK, hD, B.returns, B.notSynchronized, hE⟩
  rw [show entryFrame m args 2 = entryFrame m ([.ref (ad 0), .int a1] : List Value).toArray 2 by rw [ha]]
  refine q_entry (A := A) (Nat.le_of_ble_eq_true rfl) hP (lv := [(0, .ref (ad 0)), (1, .int a1)]) rfl ?_
  unfold fX6_at at h
  refine q_iload_n C dX6_at_0 rfl 1 rfl ?_
  refine q_aload_n C dX6_at_1 rfl 0 rfl ?_
  refine q_get C (Cn := RX6) (T := TX6) (Nf := 60) (ci := 6) (id := 0) (k := 4) (v := .int (σ.1 0 4)) nX6_at_X6 (by decide) (ceM_0 ad cy _ _ _) rfl (by decide) rfl hX6_at_157 dX6_at_2 ?_
  refine q_join (G := fun (y22 : Int32) => qVi ceM 42 ad cy X A D p l e (headSpec wsX6_at rmX6_at).room s m args below meth c 2 r0 σ0 22 [] [.int y22] σ) h (fun y22 h => ?_) (fun j22 hj22 h => ?_)
  · exact q_iret C rfl dX6_at_22 h
  refine q_icmp_ge C (tgt := 21) dX6_at_5 (by decide) h (fun h => ?_) (fun h => ?_)
  · refine q_iconst C (v := 0) dX6_at_21 (by decide) ?_
    exact q_sub [] rfl (hj22 (0 : Int32) h)
  · refine q_aload_n C dX6_at_8 rfl 0 rfl ?_
    refine q_get C (Cn := RX6) (T := TX6) (Nf := 60) (ci := 6) (id := 0) (k := 3) (v := .ref (ad 2)) nX6_at_X6 (by decide) (ceM_0 ad cy _ _ _) rfl (by decide) rfl hX6_at_17 dX6_at_9 ?_
    refine q_iload_n C dX6_at_12 rfl 1 rfl ?_
    refine q_bald C (id := 2) (by decide) (ceM_2 ad cy _ _ _) dX6_at_13 h (fun h => ?_)
    refine q_sipush C (v := 255) dX6_at_14 (by decide) ?_
    refine q_iand C dX6_at_17 ?_
    refine q_goto C (tgt := 22) dX6_at_18 (by decide) ?_
    exact q_sub [] rfl (hj22 ((σ.1 2 a1.toNatClampNeg) &&& (255 : Int32)) h)
abbrev rmX6_isDigit : Room := { frames := 0, cells := 0, slots := 0, locals := 0 }
theorem hyX6_isDigit : yX6_isDigit.cls ≠ "java/lang/invoke/MethodHandle" ∧ yX6_isDigit.cls ≠ "java/lang/invoke/VarHandle" ∧ (parseMethodDescriptor yX6_isDigit.desc).map (fun d => d.parameters.length) = some 1 := by decide +kernel
def fX6_isDigit (σ : St) (a0 : Int32) : Option (Int32 × St) := qlet (fun (y17 : Int32) => (qzz y17 (some (y17, σ)))) (fun j17 => (qlet (fun (y16 : Unit) => (j17 (0 : Int32))) (fun j16 => (if a0 < (48 : Int32) then (j16 ()) else (if (57 : Int32) < a0 then (j16 ()) else (j17 (1 : Int32)))))))
set_option maxHeartbeats 4000000 in
set_option maxRecDepth 100000 in
theorem kX6_isDigit (l : Launch) (D : va_G) (ad : Nat → Nat) (cy : Nat → ClassId) (X : va_W) (A : Nat → Prop) (zs : Nat × Nat × Option Nat) (σ : St) (a0 : Int32) (r0 : Int32) (σ0 : St) (h : fX6_isDigit σ a0 = some (r0, σ0)) : Met l yX6_isDigit wsX6_isDigit rmX6_isDigit (qPc ceM 42 ad cy X A D zs [.int a0] σ) (qQi ceM 42 ad cy X A D r0 σ0) 0 0 A := by
  refine Met.ofW (cc := cX6_isDigit) (maxL := 1) (ret := (some .boolean)) (by decide) rfl ?_
  intro p e s m args below meth c s₁ B hml hv
  obtain ⟨ha, hP, hK, hE, hD⟩ := hv
  have C : qC ceM 42 ad cy X A D zs cX6_isDigit 1 RX6 wsX6_isDigit p s m args meth c (some .boolean) := ⟨B.exec, B.bytes, hml, findClass_of_methodNamed B.named, atoms_spec (ws := wsX6_isDigit) B.pre, hK, hD, B.returns, B.notSynchronized, hE⟩
  rw [show entryFrame m args 1 = entryFrame m ([.int a0] : List Value).toArray 1 by rw [ha]]
  refine q_entry (A := A) (Nat.le_of_ble_eq_true rfl) hP (lv := [(0, .int a0)]) rfl ?_
  unfold fX6_isDigit at h
  refine q_iload_n C dX6_isDigit_0 rfl 0 rfl ?_
  refine q_bipush C (v := 48) dX6_isDigit_1 (by decide) ?_
  refine q_join (G := fun (y17 : Int32) => qVi ceM 42 ad cy X A D p l e (headSpec wsX6_isDigit rmX6_isDigit).room s m args below meth c 1 r0 σ0 17 [] [.int y17] σ) h (fun y17 h => ?_) (fun j17 hj17 h => ?_)
  · exact q_zret C rfl dX6_isDigit_17 h
  refine q_join (G := fun (y16 : Unit) => qVi ceM 42 ad cy X A D p l e (headSpec wsX6_isDigit rmX6_isDigit).room s m args below meth c 1 r0 σ0 16 [] [] σ) h (fun y16 h => ?_) (fun j16 hj16 h => ?_)
  · refine q_iconst C (v := 0) dX6_isDigit_16 (by decide) ?_
    exact q_sub [] rfl (hj17 (0 : Int32) h)
  refine q_icmp_lt C (tgt := 16) dX6_isDigit_3 (by decide) h (fun h => ?_) (fun h => ?_)
  · exact q_sub [] rfl (hj16 () h)
  · refine q_iload_n C dX6_isDigit_6 rfl 0 rfl ?_
    refine q_bipush C (v := 57) dX6_isDigit_7 (by decide) ?_
    refine q_icmp_gt C (tgt := 16) dX6_isDigit_9 (by decide) h (fun h => ?_) (fun h => ?_)
    · exact q_sub [] rfl (hj16 () h)
    · refine q_iconst C (v := 1) dX6_isDigit_12 (by decide) ?_
      refine q_goto C (tgt := 17) dX6_isDigit_13 (by decide) ?_
      exact q_sub [] rfl (hj17 (1 : Int32) h)
abbrev rmX6_isLetter : Room := { frames := 0, cells := 0, slots := 0, locals := 0 }
theorem hyX6_isLetter : yX6_isLetter.cls ≠ "java/lang/invoke/MethodHandle" ∧ yX6_isLetter.cls ≠ "java/lang/invoke/VarHandle" ∧ (parseMethodDescriptor yX6_isLetter.desc).map (fun d => d.parameters.length) = some 1 := by decide +kernel
def fX6_isLetter (σ : St) (a0 : Int32) : Option (Int32 × St) := qlet (fun (y17 : Int32) => (qzz y17 (some (y17, σ)))) (fun j17 => (qlet (fun (y16 : Unit) => (j17 (0 : Int32))) (fun j16 => (if a0 < (97 : Int32) then (j16 ()) else (if (122 : Int32) < a0 then (j16 ()) else (j17 (1 : Int32)))))))
set_option maxHeartbeats 4000000 in
set_option maxRecDepth 100000 in
theorem kX6_isLetter (l : Launch) (D : va_G) (ad : Nat → Nat) (cy : Nat → ClassId) (X : va_W) (A : Nat → Prop) (zs : Nat × Nat × Option Nat) (σ : St) (a0 : Int32) (r0 : Int32) (σ0 : St) (h : fX6_isLetter σ a0 = some (r0, σ0)) : Met l yX6_isLetter wsX6_isLetter rmX6_isLetter (qPc ceM 42 ad cy X A D zs [.int a0] σ) (qQi ceM 42 ad cy X A D r0 σ0) 0 0 A := by
  refine Met.ofW (cc := cX6_isLetter) (maxL := 1) (ret := (some .boolean)) (by decide) rfl ?_
  intro p e s m args below meth c s₁ B hml hv
  obtain ⟨ha, hP, hK, hE, hD⟩ := hv
  have C : qC ceM 42 ad cy X A D zs cX6_isLetter 1 RX6 wsX6_isLetter p s m args meth c (some .boolean) := ⟨B.exec, B.bytes, hml, findClass_of_methodNamed B.named, atoms_spec (ws := wsX6_isLetter) B.pre, hK, hD, B.returns, B.notSynchronized, hE⟩
  rw [show entryFrame m args 1 = entryFrame m ([.int a0] : List Value).toArray 1 by rw [ha]]
  refine q_entry (A := A) (Nat.le_of_ble_eq_true rfl) hP (lv := [(0, .int a0)]) rfl ?_
  unfold fX6_isLetter at h
  refine q_iload_n C dX6_isLetter_0 rfl 0 rfl ?_
  refine q_bipush C (v := 97) dX6_isLetter_1 (by decide) ?_
  refine q_join (G := fun (y17 : Int32) => qVi ceM 42 ad cy X A D p l e (headSpec wsX6_isLetter rmX6_isLetter).room s m args below meth c 1 r0 σ0 17 [] [.int y17] σ) h (fun y17 h => ?_) (fun j17 hj17 h => ?_)
  · exact q_zret C rfl dX6_isLetter_17 h
  refine q_join (G := fun (y16 : Unit) => qVi ceM 42 ad cy X A D p l e (headSpec wsX6_isLetter rmX6_isLetter).room s m args below meth c 1 r0 σ0 16 [] [] σ) h (fun y16 h => ?_) (fun j16 hj16 h => ?_)
  · refine q_iconst C (v := 0) dX6_isLetter_16 (by decide) ?_
    exact q_sub [] rfl (hj17 (0 : Int32) h)
  refine q_icmp_lt C (tgt := 16) dX6_isLetter_3 (by decide) h (fun h => ?_) (fun h => ?_)
  · exact q_sub [] rfl (hj16 () h)
  · refine q_iload_n C dX6_isLetter_6 rfl 0 rfl ?_
    refine q_bipush C (v := 122) dX6_isLetter_7 (by decide) ?_
    refine q_icmp_gt C (tgt := 16) dX6_isLetter_9 (by decide) h (fun h => ?_) (fun h => ?_)
    · exact q_sub [] rfl (hj16 () h)
    · refine q_iconst C (v := 1) dX6_isLetter_12 (by decide) ?_
      refine q_goto C (tgt := 17) dX6_isLetter_13 (by decide) ?_
      exact q_sub [] rfl (hj17 (1 : Int32) h)
abbrev rmX6_more : Room := { frames := 0, cells := 0, slots := 0, locals := 0 }
theorem hyX6_more : yX6_more.cls ≠ "java/lang/invoke/MethodHandle" ∧ yX6_more.cls ≠ "java/lang/invoke/VarHandle" ∧ (parseMethodDescriptor yX6_more.desc).map (fun d => d.parameters.length) = some 2 := by decide +kernel
theorem hX6_more_160 : Cond.constantLong RX6 160 (27) ∈ wsX6_more := by decide +kernel
def fX6_more (σ : St) (a0 : Int64) (a2 : Int32) : Option (Int64 × St) := qlet (fun (y21 : Int64) => (some (y21, σ))) (fun j21 => (if a2 = (0 : Int32) then (j21 a0) else (j21 (((27 : Int64) * a0) + ((a2 - (97 : Int32)) + (1 : Int32)).toInt64))))
set_option maxHeartbeats 4000000 in
set_option maxRecDepth 100000 in
theorem kX6_more (l : Launch) (D : va_G) (ad : Nat → Nat) (cy : Nat → ClassId) (X : va_W) (A : Nat → Prop) (zs : Nat × Nat × Option Nat) (σ : St) (a0 : Int64) (a2 : Int32) (r0 : Int64) (σ0 : St) (h : fX6_more σ a0 a2 = some (r0, σ0)) : Met l yX6_more wsX6_more rmX6_more (qPc ceM 42 ad cy X A D zs [.long a0, .int a2] σ) (qQl ceM 42 ad cy X A D r0 σ0) 0 0 A := by
  refine Met.ofW (cc := cX6_more) (maxL := 3) (ret := (some .long)) (by decide) rfl ?_
  intro p e s m args below meth c s₁ B hml hv
  obtain ⟨ha, hP, hK, hE, hD⟩ := hv
  have C : qC ceM 42 ad cy X A D zs cX6_more 3 RX6 wsX6_more p s m args meth c (some .long) := ⟨B.exec, B.bytes, hml, findClass_of_methodNamed B.named, atoms_spec (ws := wsX6_more) B.pre, hK, hD, B.returns, B.notSynchronized, hE⟩
  rw [show entryFrame m args 3 = entryFrame m ([.long a0, .int a2] : List Value).toArray 3 by rw [ha]]
  refine q_entry (A := A) (Nat.le_of_ble_eq_true rfl) hP (lv := [(0, .long a0), (2, .int a2)]) rfl ?_
  unfold fX6_more at h
  refine q_iload_n C dX6_more_0 rfl 1 rfl ?_
  refine q_join (G := fun (y21 : Int64) => qVl ceM 42 ad cy X A D p l e (headSpec wsX6_more rmX6_more).room s m args below meth c 3 r0 σ0 21 [] [.long y21] σ) h (fun y21 h => ?_) (fun j21 hj21 h => ?_)
  · exact q_lret C rfl dX6_more_21 h
  refine q_if_ne C (tgt := 8) dX6_more_1 (by decide) h (fun h => ?_) (fun h => ?_)
  · refine q_ldc2 C (v := 27) dX6_more_8 hX6_more_160 ?_
    refine q_lload_n C dX6_more_11 rfl 0 rfl ?_
    refine q_lmul C dX6_more_12 ?_
    refine q_iload_n C dX6_more_13 rfl 1 rfl ?_
    refine q_bipush C (v := 97) dX6_more_14 (by decide) ?_
    refine q_isub C dX6_more_16 ?_
    refine q_iconst C (v := 1) dX6_more_17 (by decide) ?_
    refine q_iadd C dX6_more_18 ?_
    refine q_i2l C dX6_more_19 ?_
    refine q_ladd C dX6_more_20 ?_
    exact q_sub [] rfl (hj21 (((27 : Int64) * a0) + ((a2 - (97 : Int32)) + (1 : Int32)).toInt64) h)
  · refine q_lload_n C dX6_more_4 rfl 0 rfl ?_
    refine q_goto C (tgt := 21) dX6_more_5 (by decide) ?_
    exact q_sub [] rfl (hj21 a0 h)
abbrev rmX6_word : Room := { frames := 1, cells := 0, slots := 0, locals := 22 }
theorem hyX6_word : yX6_word.cls ≠ "java/lang/invoke/MethodHandle" ∧ yX6_word.cls ≠ "java/lang/invoke/VarHandle" ∧ (parseMethodDescriptor yX6_word.desc).map (fun d => d.parameters.length) = some 7 := by decide +kernel
def fX6_word (σ : St) (a0 : Int32) (a1 : Int32) (a2 : Int32) (a3 : Int32) (a4 : Int32) (a5 : Int32) (a6 : Int32) : Option (Int64 × St) := qcall (fX6_more σ (0 : Int64) a0) (fun r2 σ2 => qcall (fX6_more σ2 r2 a1) (fun r6 σ6 => qcall (fX6_more σ6 r6 a2) (fun r10 σ10 => qcall (fX6_more σ10 r10 a3) (fun r14 σ14 => qcall (fX6_more σ14 r14 a4) (fun r19 σ19 => qcall (fX6_more σ19 r19 a5) (fun r24 σ24 => qcall (fX6_more σ24 r24 a6) (fun r29 σ29 => some (r29, σ29))))))))
set_option maxHeartbeats 4000000 in
set_option maxRecDepth 100000 in
theorem kX6_word (l : Launch) (D : va_G) (ad : Nat → Nat) (cy : Nat → ClassId) (X : va_W) (A : Nat → Prop) (zs : Nat × Nat × Option Nat) (σ : St) (a0 : Int32) (a1 : Int32) (a2 : Int32) (a3 : Int32) (a4 : Int32) (a5 : Int32) (a6 : Int32) (r0 : Int64) (σ0 : St) (h : fX6_word σ a0 a1 a2 a3 a4 a5 a6 = some (r0, σ0)) : Met l yX6_word wsX6_word rmX6_word (qPc ceM 42 ad cy X A D zs [.int a0, .int a1, .int a2, .int a3, .int a4, .int a5, .int a6] σ) (qQl ceM 42 ad cy X A D r0 σ0) 0 0 A := by
  refine Met.ofW (cc := cX6_word) (maxL := 7) (ret := (some .long)) (by decide) rfl ?_
  intro p e s m args below meth c s₁ B hml hv
  obtain ⟨ha, hP, hK, hE, hD⟩ := hv
  have C : qC ceM 42 ad cy X A D zs cX6_word 7 RX6 wsX6_word p s m args meth c (some .long) := ⟨B.exec, B.bytes, hml, findClass_of_methodNamed B.named, atoms_spec (ws := wsX6_word) B.pre, hK, hD, B.returns, B.notSynchronized, hE⟩
  rw [show entryFrame m args 7 = entryFrame m ([.int a0, .int a1, .int a2, .int a3, .int a4, .int a5, .int a6] : List Value).toArray 7 by rw [ha]]
  refine q_entry (A := A) (Nat.le_of_ble_eq_true rfl) hP (lv := [(0, .int a0), (1, .int a1), (2, .int a2), (3, .int a3), (4, .int a4), (5, .int a5), (6, .int a6)]) rfl ?_
  unfold fX6_word at h
  refine q_lconst C (v := 0) dX6_word_0 (by decide) ?_
  refine q_iload_n C dX6_word_1 rfl 0 rfl ?_
  refine q_callSl C (rm := rmX6_more) (As := [.long (0 : Int64), .int a0]) (rest := []) (fun r9 σ9 h9 => kX6_more l D ad cy X A zs σ (0 : Int64) a0 r9 σ9 h9) gX6_word_X6_more rfl rfl rfl hyX6_more ⟨Nat.le_of_ble_eq_true rfl, Nat.le_of_ble_eq_true rfl⟩ rfl rfl (Nat.le_of_ble_eq_true rfl) dX6_word_2 ⟨Nat.zero_le _, Nat.zero_le _⟩ h (fun r2 σ2 h => ?_)
  refine q_iload_n C dX6_word_5 rfl 1 rfl ?_
  refine q_callSl C (rm := rmX6_more) (As := [.long r2, .int a1]) (rest := []) (fun r9 σ9 h9 => kX6_more l D ad cy X A zs σ2 r2 a1 r9 σ9 h9) gX6_word_X6_more rfl rfl rfl hyX6_more ⟨Nat.le_of_ble_eq_true rfl, Nat.le_of_ble_eq_true rfl⟩ rfl rfl (Nat.le_of_ble_eq_true rfl) dX6_word_6 ⟨Nat.zero_le _, Nat.zero_le _⟩ h (fun r6 σ6 h => ?_)
  refine q_iload_n C dX6_word_9 rfl 2 rfl ?_
  refine q_callSl C (rm := rmX6_more) (As := [.long r6, .int a2]) (rest := []) (fun r9 σ9 h9 => kX6_more l D ad cy X A zs σ6 r6 a2 r9 σ9 h9) gX6_word_X6_more rfl rfl rfl hyX6_more ⟨Nat.le_of_ble_eq_true rfl, Nat.le_of_ble_eq_true rfl⟩ rfl rfl (Nat.le_of_ble_eq_true rfl) dX6_word_10 ⟨Nat.zero_le _, Nat.zero_le _⟩ h (fun r10 σ10 h => ?_)
  refine q_iload_n C dX6_word_13 rfl 3 rfl ?_
  refine q_callSl C (rm := rmX6_more) (As := [.long r10, .int a3]) (rest := []) (fun r9 σ9 h9 => kX6_more l D ad cy X A zs σ10 r10 a3 r9 σ9 h9) gX6_word_X6_more rfl rfl rfl hyX6_more ⟨Nat.le_of_ble_eq_true rfl, Nat.le_of_ble_eq_true rfl⟩ rfl rfl (Nat.le_of_ble_eq_true rfl) dX6_word_14 ⟨Nat.zero_le _, Nat.zero_le _⟩ h (fun r14 σ14 h => ?_)
  refine q_iload C dX6_word_17 4 rfl ?_
  refine q_callSl C (rm := rmX6_more) (As := [.long r14, .int a4]) (rest := []) (fun r9 σ9 h9 => kX6_more l D ad cy X A zs σ14 r14 a4 r9 σ9 h9) gX6_word_X6_more rfl rfl rfl hyX6_more ⟨Nat.le_of_ble_eq_true rfl, Nat.le_of_ble_eq_true rfl⟩ rfl rfl (Nat.le_of_ble_eq_true rfl) dX6_word_19 ⟨Nat.zero_le _, Nat.zero_le _⟩ h (fun r19 σ19 h => ?_)
  refine q_iload C dX6_word_22 5 rfl ?_
  refine q_callSl C (rm := rmX6_more) (As := [.long r19, .int a5]) (rest := []) (fun r9 σ9 h9 => kX6_more l D ad cy X A zs σ19 r19 a5 r9 σ9 h9) gX6_word_X6_more rfl rfl rfl hyX6_more ⟨Nat.le_of_ble_eq_true rfl, Nat.le_of_ble_eq_true rfl⟩ rfl rfl (Nat.le_of_ble_eq_true rfl) dX6_word_24 ⟨Nat.zero_le _, Nat.zero_le _⟩ h (fun r24 σ24 h => ?_)
  refine q_iload C dX6_word_27 6 rfl ?_
  refine q_callSl C (rm := rmX6_more) (As := [.long r24, .int a6]) (rest := []) (fun r9 σ9 h9 => kX6_more l D ad cy X A zs σ24 r24 a6 r9 σ9 h9) gX6_word_X6_more rfl rfl rfl hyX6_more ⟨Nat.le_of_ble_eq_true rfl, Nat.le_of_ble_eq_true rfl⟩ rfl rfl (Nat.le_of_ble_eq_true rfl) dX6_word_29 ⟨Nat.zero_le _, Nat.zero_le _⟩ h (fun r29 σ29 h => ?_)
  exact q_lret C rfl dX6_word_32 h
abbrev rmX6_token : Room := { frames := 0, cells := 0, slots := 0, locals := 0 }
theorem hyX6_token : yX6_token.cls = RX6 ∧ yX6_token.cls ≠ "java/lang/invoke/MethodHandle" ∧ yX6_token.cls ≠ "java/lang/invoke/VarHandle" ∧ (parseMethodDescriptor yX6_token.desc).map (fun d => d.parameters.length) = some 4 := by decide +kernel
theorem nX6_token_X6 : ∀ w ∈ u_ws RX6 TX6 60, w ∈ wsX6_token := by decide +kernel
theorem hX6_token_20 : Cond.fieldLink RX6 20 (TX6 5).1 (TX6 5).2.1 (TX6 5).2.2.1 ∈ wsX6_token := by decide +kernel
theorem hX6_token_166 : Cond.fieldLink RX6 166 (TX6 10).1 (TX6 10).2.1 (TX6 10).2.2.1 ∈ wsX6_token := by decide +kernel
theorem hX6_token_24 : Cond.fieldLink RX6 24 (TX6 6).1 (TX6 6).2.1 (TX6 6).2.2.1 ∈ wsX6_token := by decide +kernel
theorem hX6_token_27 : Cond.fieldLink RX6 27 (TX6 7).1 (TX6 7).2.1 (TX6 7).2.2.1 ∈ wsX6_token := by decide +kernel
theorem hX6_token_30 : Cond.fieldLink RX6 30 (TX6 8).1 (TX6 8).2.1 (TX6 8).2.2.1 ∈ wsX6_token := by decide +kernel
def fX6_token (σ : St) (a1 : Int32) (a2 : Int32) (a3 : Int32) (a4 : Int64) : Option (Int32 × St) := qix (σ.1 0 10) 403 (qlet (sI σ 3 (σ.1 0 10).toNatClampNeg a1) (fun σ9 => qix (σ9.1 0 10) 403 (qlet (sI σ9 4 (σ9.1 0 10).toNatClampNeg a2) (fun σ19 => qix (σ19.1 0 10) 403 (qlet (sI σ19 5 (σ19.1 0 10).toNatClampNeg a3) (fun σ29 => qix (σ29.1 0 10) 403 (qlet (sJ σ29 6 (σ29.1 0 10).toNatClampNeg a4) (fun σ40 => qlet (sI σ40 0 10 ((σ40.1 0 10) + (1 : Int32))) (fun σ48 => some ((0 : Int32), σ48))))))))))
set_option maxHeartbeats 4000000 in
set_option maxRecDepth 100000 in
theorem kX6_token (l : Launch) (D : va_G) (ad : Nat → Nat) (cy : Nat → ClassId) (X : va_W) (A : Nat → Prop) (zs : Nat × Nat × Option Nat) (σ : St) (a1 : Int32) (a2 : Int32) (a3 : Int32) (a4 : Int64) (r0 : Int32) (σ0 : St) (h : fX6_token σ a1 a2 a3 a4 = some (r0, σ0)) : Met l yX6_token wsX6_token rmX6_token (qPc ceM 42 ad cy X A D zs [.ref (ad 0), .int a1, .int a2, .int a3, .long a4] σ) (qQv ceM 42 ad cy X A D σ0) 0 0 A := by
  refine Met.ofW (cc := cX6_token) (maxL := 6) (ret := none) (by decide) rfl ?_
  intro p e s m args below meth c s₁ B hml hv
  obtain ⟨ha, hP, hK, hE, hD⟩ := hv
  have C : qC ceM 42 ad cy X A D zs cX6_token 6 RX6 wsX6_token p s m args meth c none := ⟨B.exec, B.bytes, hml, findClass_of_methodNamed B.named, atoms_spec (ws := wsX6_token) B.pre, hK, hD, B.returns, B.notSynchronized, hE⟩
  rw [show entryFrame m args 6 = entryFrame m ([.ref (ad 0), .int a1, .int a2, .int a3, .long a4] : List Value).toArray 6 by rw [ha]]
  refine q_entry (A := A) (Nat.le_of_ble_eq_true rfl) hP (lv := [(0, .ref (ad 0)), (1, .int a1), (2, .int a2), (3, .int a3), (4, .long a4)]) rfl ?_
  unfold fX6_token at h
  refine q_aload_n C dX6_token_0 rfl 0 rfl ?_
  refine q_get C (Cn := RX6) (T := TX6) (Nf := 60) (ci := 6) (id := 0) (k := 5) (v := .ref (ad 3)) nX6_token_X6 (by decide) (ceM_0 ad cy _ _ _) rfl (by decide) rfl hX6_token_20 dX6_token_1 ?_
  refine q_aload_n C dX6_token_4 rfl 0 rfl ?_
  refine q_get C (Cn := RX6) (T := TX6) (Nf := 60) (ci := 6) (id := 0) (k := 10) (v := .int (σ.1 0 10)) nX6_token_X6 (by decide) (ceM_0 ad cy _ _ _) rfl (by decide) rfl hX6_token_166 dX6_token_5 ?_
  refine q_iload_n C dX6_token_8 rfl 1 rfl ?_
  refine q_iast C (id := 3) (by decide) (fun f g => ceM_3 ad cy _ f g) dX6_token_9 h (fun σ9 h => ?_)
  refine q_aload_n C dX6_token_10 rfl 0 rfl ?_
  refine q_get C (Cn := RX6) (T := TX6) (Nf := 60) (ci := 6) (id := 0) (k := 6) (v := .ref (ad 4)) nX6_token_X6 (by decide) (ceM_0 ad cy _ _ _) rfl (by decide) rfl hX6_token_24 dX6_token_11 ?_
  refine q_aload_n C dX6_token_14 rfl 0 rfl ?_
  refine q_get C (Cn := RX6) (T := TX6) (Nf := 60) (ci := 6) (id := 0) (k := 10) (v := .int (σ9.1 0 10)) nX6_token_X6 (by decide) (ceM_0 ad cy _ _ _) rfl (by decide) rfl hX6_token_166 dX6_token_15 ?_
  refine q_iload_n C dX6_token_18 rfl 2 rfl ?_
  refine q_iast C (id := 4) (by decide) (fun f g => ceM_4 ad cy _ f g) dX6_token_19 h (fun σ19 h => ?_)
  refine q_aload_n C dX6_token_20 rfl 0 rfl ?_
  refine q_get C (Cn := RX6) (T := TX6) (Nf := 60) (ci := 6) (id := 0) (k := 7) (v := .ref (ad 5)) nX6_token_X6 (by decide) (ceM_0 ad cy _ _ _) rfl (by decide) rfl hX6_token_27 dX6_token_21 ?_
  refine q_aload_n C dX6_token_24 rfl 0 rfl ?_
  refine q_get C (Cn := RX6) (T := TX6) (Nf := 60) (ci := 6) (id := 0) (k := 10) (v := .int (σ19.1 0 10)) nX6_token_X6 (by decide) (ceM_0 ad cy _ _ _) rfl (by decide) rfl hX6_token_166 dX6_token_25 ?_
  refine q_iload_n C dX6_token_28 rfl 3 rfl ?_
  refine q_iast C (id := 5) (by decide) (fun f g => ceM_5 ad cy _ f g) dX6_token_29 h (fun σ29 h => ?_)
  refine q_aload_n C dX6_token_30 rfl 0 rfl ?_
  refine q_get C (Cn := RX6) (T := TX6) (Nf := 60) (ci := 6) (id := 0) (k := 8) (v := .ref (ad 6)) nX6_token_X6 (by decide) (ceM_0 ad cy _ _ _) rfl (by decide) rfl hX6_token_30 dX6_token_31 ?_
  refine q_aload_n C dX6_token_34 rfl 0 rfl ?_
  refine q_get C (Cn := RX6) (T := TX6) (Nf := 60) (ci := 6) (id := 0) (k := 10) (v := .int (σ29.1 0 10)) nX6_token_X6 (by decide) (ceM_0 ad cy _ _ _) rfl (by decide) rfl hX6_token_166 dX6_token_35 ?_
  refine q_lload C dX6_token_38 4 rfl ?_
  refine q_last C (id := 6) (by decide) (fun f g => ceM_6 ad cy _ f g) dX6_token_40 h (fun σ40 h => ?_)
  refine q_aload_n C dX6_token_41 rfl 0 rfl ?_
  refine q_dup C dX6_token_42 rfl ?_
  refine q_get C (Cn := RX6) (T := TX6) (Nf := 60) (ci := 6) (id := 0) (k := 10) (v := .int (σ40.1 0 10)) nX6_token_X6 (by decide) (ceM_0 ad cy _ _ _) rfl (by decide) rfl hX6_token_166 dX6_token_43 ?_
  refine q_iconst C (v := 1) dX6_token_46 (by decide) ?_
  refine q_iadd C dX6_token_47 ?_
  refine q_put C (Cn := RX6) (T := TX6) (ty0 := tyX6) (Nf := 60) (ci := 6) (id := 0) (k := 10) (y := 0) tyX6_ok nmX6 nX6_token_X6 (by decide) (ceM_0 ad cy _ _ _) (ceM_0 ad cy _ _ _) rfl (by decide) rfl (by decide +kernel) (Nat.le_of_ble_eq_true rfl) hX6_token_166 dX6_token_48 h (fun σ48 h => ?_)
  exact q_vret C (r0 := r0) rfl dX6_token_51 h
abbrev rmX6_sign : Room := { frames := 1, cells := 0, slots := 0, locals := 25 }
theorem hyX6_sign : yX6_sign.cls = RX6 ∧ yX6_sign.cls ≠ "java/lang/invoke/MethodHandle" ∧ yX6_sign.cls ≠ "java/lang/invoke/VarHandle" ∧ (parseMethodDescriptor yX6_sign.desc).map (fun d => d.parameters.length) = some 3 := by decide +kernel
def fX6_sign (σ : St) (a1 : Int32) (a2 : Int32) (a3 : Int32) : Option (Int32 × St) := qlet (fun (y44 : Int32) => (qlet (fun (y148 : Int32) => (qcall (fX6_token σ y148 a1 (0 : Int32) (0 : Int64)) (fun _ σ154 => qlet (fun (y167 : Int32) => (some (y167, σ154))) (fun j167 => (if y44 ≤ (0 : Int32) then (j167 (1 : Int32)) else (j167 (2 : Int32))))))) (fun j148 => (if y44 ≤ (0 : Int32) then (if a2 = (59 : Int32) then (j148 (4 : Int32)) else (if a2 = (40 : Int32) then (j148 (6 : Int32)) else (if a2 = (41 : Int32) then (j148 (7 : Int32)) else (if a2 = (43 : Int32) then (j148 (8 : Int32)) else (if a2 = (45 : Int32) then (j148 (9 : Int32)) else (if a2 = (42 : Int32) then (j148 (10 : Int32)) else (if a2 = (60 : Int32) then (j148 (13 : Int32)) else (j148 (3 : Int32))))))))) else (j148 y44))))) (fun j44 => (if a3 = (61 : Int32) then (if a2 = (61 : Int32) then (j44 (11 : Int32)) else (if a2 = (33 : Int32) then (j44 (12 : Int32)) else (if a2 = (60 : Int32) then (j44 (14 : Int32)) else (j44 (0 : Int32))))) else (j44 (0 : Int32))))
set_option maxHeartbeats 4000000 in
set_option maxRecDepth 100000 in
theorem kX6_sign (l : Launch) (D : va_G) (ad : Nat → Nat) (cy : Nat → ClassId) (X : va_W) (A : Nat → Prop) (zs : Nat × Nat × Option Nat) (σ : St) (a1 : Int32) (a2 : Int32) (a3 : Int32) (r0 : Int32) (σ0 : St) (h : fX6_sign σ a1 a2 a3 = some (r0, σ0)) : Met l yX6_sign wsX6_sign rmX6_sign (qPc ceM 42 ad cy X A D zs [.ref (ad 0), .int a1, .int a2, .int a3] σ) (qQi ceM 42 ad cy X A D r0 σ0) 0 0 A := by
  refine Met.ofW (cc := cX6_sign) (maxL := 6) (ret := (some .int)) (by decide) rfl ?_
  intro p e s m args below meth c s₁ B hml hv
  obtain ⟨ha, hP, hK, hE, hD⟩ := hv
  have C : qC ceM 42 ad cy X A D zs cX6_sign 6 RX6 wsX6_sign p s m args meth c (some .int) := ⟨B.exec, B.bytes, hml, findClass_of_methodNamed B.named, atoms_spec (ws := wsX6_sign) B.pre, hK, hD, B.returns, B.notSynchronized, hE⟩
  rw [show entryFrame m args 6 = entryFrame m ([.ref (ad 0), .int a1, .int a2, .int a3] : List Value).toArray 6 by rw [ha]]
  refine q_entry (A := A) (Nat.le_of_ble_eq_true rfl) hP (lv := [(0, .ref (ad 0)), (1, .int a1), (2, .int a2), (3, .int a3)]) rfl ?_
  unfold fX6_sign at h
  refine q_iload_n C dX6_sign_0 rfl 3 rfl ?_
  refine q_bipush C (v := 61) dX6_sign_1 (by decide) ?_
  refine q_join (G := fun (y44 : Int32) => qVi ceM 42 ad cy X A D p l e (headSpec wsX6_sign rmX6_sign).room s m args below meth c 6 r0 σ0 44 [(0, .ref (ad 0)), (1, .int a1), (2, .int a2)] [.int y44] σ) h (fun y44 h => ?_) (fun j44 hj44 h => ?_)
  · refine q_istore C dX6_sign_44 (by decide) (lv' := [(0, .ref (ad 0)), (1, .int a1), (2, .int a2), (4, .int y44)]) rfl ?_
    refine q_iconst C (v := 3) dX6_sign_46 (by decide) ?_
    refine q_istore C dX6_sign_47 (by decide) (lv' := [(0, .ref (ad 0)), (1, .int a1), (2, .int a2), (4, .int y44), (5, .int (3 : Int32))]) rfl ?_
    refine q_iload C dX6_sign_49 3 rfl ?_
    refine q_join (G := fun (y148 : Int32) => qVi ceM 42 ad cy X A D p l e (headSpec wsX6_sign rmX6_sign).room s m args below meth c 6 r0 σ0 148 [(0, .ref (ad 0)), (1, .int a1), (4, .int y44), (5, .int y148)] [] σ) h (fun y148 h => ?_) (fun j148 hj148 h => ?_)
    · refine q_aload_n C dX6_sign_148 rfl 0 rfl ?_
      refine q_iload C dX6_sign_149 3 rfl ?_
      refine q_iload_n C dX6_sign_151 rfl 1 rfl ?_
      refine q_iconst C (v := 0) dX6_sign_152 (by decide) ?_
      refine q_lconst C (v := 0) dX6_sign_153 (by decide) ?_
      refine q_callVv C (rm := rmX6_token) (As := [.int y148, .int a1, .int (0 : Int32), .long (0 : Int64)]) (rest := []) (id := 0) (ci := 6) (fun r9 σ9 h9 => kX6_token l D ad cy X A zs σ y148 a1 (0 : Int32) (0 : Int64) r9 σ9 h9) gX6_sign_X6_token rfl rfl rfl hyX6_token ⟨Nat.le_of_ble_eq_true rfl, Nat.le_of_ble_eq_true rfl⟩ (by decide) (ceM_0 ad cy _ _ _) rfl rfl rfl (Nat.le_of_ble_eq_true rfl) dX6_sign_154 ⟨Nat.zero_le _, Nat.zero_le _⟩ h (fun r154 σ154 h => ?_)
      refine q_iload C dX6_sign_157 2 rfl ?_
      refine q_join (G := fun (y167 : Int32) => qVi ceM 42 ad cy X A D p l e (headSpec wsX6_sign rmX6_sign).room s m args below meth c 6 r0 σ0 167 [] [.int y167] σ154) h (fun y167 h => ?_) (fun j167 hj167 h => ?_)
      · exact q_iret C rfl dX6_sign_167 h
      refine q_if_le C (tgt := 166) dX6_sign_159 (by decide) h (fun h => ?_) (fun h => ?_)
      · refine q_iconst C (v := 1) dX6_sign_166 (by decide) ?_
        exact q_sub [] rfl (hj167 (1 : Int32) h)
      · refine q_iconst C (v := 2) dX6_sign_162 (by decide) ?_
        refine q_goto C (tgt := 167) dX6_sign_163 (by decide) ?_
        exact q_sub [] rfl (hj167 (2 : Int32) h)
    refine q_if_le C (tgt := 61) dX6_sign_51 (by decide) h (fun h => ?_) (fun h => ?_)
    · refine q_iload_n C dX6_sign_61 rfl 2 rfl ?_
      refine q_bipush C (v := 59) dX6_sign_62 (by decide) ?_
      refine q_icmp_ne C (tgt := 73) dX6_sign_64 (by decide) h (fun h => ?_) (fun h => ?_)
      · refine q_iload_n C dX6_sign_73 rfl 2 rfl ?_
        refine q_bipush C (v := 40) dX6_sign_74 (by decide) ?_
        refine q_icmp_ne C (tgt := 86) dX6_sign_76 (by decide) h (fun h => ?_) (fun h => ?_)
        · refine q_iload_n C dX6_sign_86 rfl 2 rfl ?_
          refine q_bipush C (v := 41) dX6_sign_87 (by decide) ?_
          refine q_icmp_ne C (tgt := 99) dX6_sign_89 (by decide) h (fun h => ?_) (fun h => ?_)
          · refine q_iload_n C dX6_sign_99 rfl 2 rfl ?_
            refine q_bipush C (v := 43) dX6_sign_100 (by decide) ?_
            refine q_icmp_ne C (tgt := 112) dX6_sign_102 (by decide) h (fun h => ?_) (fun h => ?_)
            · refine q_iload_n C dX6_sign_112 rfl 2 rfl ?_
              refine q_bipush C (v := 45) dX6_sign_113 (by decide) ?_
              refine q_icmp_ne C (tgt := 125) dX6_sign_115 (by decide) h (fun h => ?_) (fun h => ?_)
              · refine q_iload_n C dX6_sign_125 rfl 2 rfl ?_
                refine q_bipush C (v := 42) dX6_sign_126 (by decide) ?_
                refine q_icmp_ne C (tgt := 138) dX6_sign_128 (by decide) h (fun h => ?_) (fun h => ?_)
                · refine q_iload_n C dX6_sign_138 rfl 2 rfl ?_
                  refine q_bipush C (v := 60) dX6_sign_139 (by decide) ?_
                  refine q_icmp_ne C (tgt := 148) dX6_sign_141 (by decide) h (fun h => ?_) (fun h => ?_)
                  · exact q_sub [0, 1, 3, 4] rfl (hj148 (3 : Int32) h)
                  · refine q_bipush C (v := 13) dX6_sign_144 (by decide) ?_
                    refine q_istore C dX6_sign_146 (by decide) (lv' := [(0, .ref (ad 0)), (1, .int a1), (2, .int a2), (4, .int y44), (5, .int (13 : Int32))]) rfl ?_
                    exact q_sub [0, 1, 3, 4] rfl (hj148 (13 : Int32) h)
                · refine q_bipush C (v := 10) dX6_sign_131 (by decide) ?_
                  refine q_istore C dX6_sign_133 (by decide) (lv' := [(0, .ref (ad 0)), (1, .int a1), (2, .int a2), (4, .int y44), (5, .int (10 : Int32))]) rfl ?_
                  refine q_goto C (tgt := 148) dX6_sign_135 (by decide) ?_
                  exact q_sub [0, 1, 3, 4] rfl (hj148 (10 : Int32) h)
              · refine q_bipush C (v := 9) dX6_sign_118 (by decide) ?_
                refine q_istore C dX6_sign_120 (by decide) (lv' := [(0, .ref (ad 0)), (1, .int a1), (2, .int a2), (4, .int y44), (5, .int (9 : Int32))]) rfl ?_
                refine q_goto C (tgt := 148) dX6_sign_122 (by decide) ?_
                exact q_sub [0, 1, 3, 4] rfl (hj148 (9 : Int32) h)
            · refine q_bipush C (v := 8) dX6_sign_105 (by decide) ?_
              refine q_istore C dX6_sign_107 (by decide) (lv' := [(0, .ref (ad 0)), (1, .int a1), (2, .int a2), (4, .int y44), (5, .int (8 : Int32))]) rfl ?_
              refine q_goto C (tgt := 148) dX6_sign_109 (by decide) ?_
              exact q_sub [0, 1, 3, 4] rfl (hj148 (8 : Int32) h)
          · refine q_bipush C (v := 7) dX6_sign_92 (by decide) ?_
            refine q_istore C dX6_sign_94 (by decide) (lv' := [(0, .ref (ad 0)), (1, .int a1), (2, .int a2), (4, .int y44), (5, .int (7 : Int32))]) rfl ?_
            refine q_goto C (tgt := 148) dX6_sign_96 (by decide) ?_
            exact q_sub [0, 1, 3, 4] rfl (hj148 (7 : Int32) h)
        · refine q_bipush C (v := 6) dX6_sign_79 (by decide) ?_
          refine q_istore C dX6_sign_81 (by decide) (lv' := [(0, .ref (ad 0)), (1, .int a1), (2, .int a2), (4, .int y44), (5, .int (6 : Int32))]) rfl ?_
          refine q_goto C (tgt := 148) dX6_sign_83 (by decide) ?_
          exact q_sub [0, 1, 3, 4] rfl (hj148 (6 : Int32) h)
      · refine q_iconst C (v := 4) dX6_sign_67 (by decide) ?_
        refine q_istore C dX6_sign_68 (by decide) (lv' := [(0, .ref (ad 0)), (1, .int a1), (2, .int a2), (4, .int y44), (5, .int (4 : Int32))]) rfl ?_
        refine q_goto C (tgt := 148) dX6_sign_70 (by decide) ?_
        exact q_sub [0, 1, 3, 4] rfl (hj148 (4 : Int32) h)
    · refine q_iload C dX6_sign_54 3 rfl ?_
      refine q_istore C dX6_sign_56 (by decide) (lv' := [(0, .ref (ad 0)), (1, .int a1), (2, .int a2), (4, .int y44), (5, .int y44)]) rfl ?_
      refine q_goto C (tgt := 148) dX6_sign_58 (by decide) ?_
      exact q_sub [0, 1, 3, 4] rfl (hj148 y44 h)
  refine q_icmp_eq C (tgt := 10) dX6_sign_3 (by decide) h (fun h => ?_) (fun h => ?_)
  · refine q_iload_n C dX6_sign_10 rfl 2 rfl ?_
    refine q_bipush C (v := 61) dX6_sign_11 (by decide) ?_
    refine q_icmp_ne C (tgt := 21) dX6_sign_13 (by decide) h (fun h => ?_) (fun h => ?_)
    · refine q_iload_n C dX6_sign_21 rfl 2 rfl ?_
      refine q_bipush C (v := 33) dX6_sign_22 (by decide) ?_
      refine q_icmp_ne C (tgt := 32) dX6_sign_24 (by decide) h (fun h => ?_) (fun h => ?_)
      · refine q_iload_n C dX6_sign_32 rfl 2 rfl ?_
        refine q_bipush C (v := 60) dX6_sign_33 (by decide) ?_
        refine q_icmp_ne C (tgt := 43) dX6_sign_35 (by decide) h (fun h => ?_) (fun h => ?_)
        · refine q_iconst C (v := 0) dX6_sign_43 (by decide) ?_
          exact q_sub [0, 1, 2] rfl (hj44 (0 : Int32) h)
        · refine q_bipush C (v := 14) dX6_sign_38 (by decide) ?_
          refine q_goto C (tgt := 44) dX6_sign_40 (by decide) ?_
          exact q_sub [0, 1, 2] rfl (hj44 (14 : Int32) h)
      · refine q_bipush C (v := 12) dX6_sign_27 (by decide) ?_
        refine q_goto C (tgt := 44) dX6_sign_29 (by decide) ?_
        exact q_sub [0, 1, 2] rfl (hj44 (12 : Int32) h)
    · refine q_bipush C (v := 11) dX6_sign_16 (by decide) ?_
      refine q_goto C (tgt := 44) dX6_sign_18 (by decide) ?_
      exact q_sub [0, 1, 2] rfl (hj44 (11 : Int32) h)
  · refine q_iconst C (v := 0) dX6_sign_6 (by decide) ?_
    refine q_goto C (tgt := 44) dX6_sign_7 (by decide) ?_
    exact q_sub [0, 1, 2] rfl (hj44 (0 : Int32) h)
abbrev rmX6_cut : Room := { frames := 2, cells := 0, slots := 0, locals := 50 }
theorem hyX6_cut : yX6_cut.cls = RX6 ∧ yX6_cut.cls ≠ "java/lang/invoke/MethodHandle" ∧ yX6_cut.cls ≠ "java/lang/invoke/VarHandle" ∧ (parseMethodDescriptor yX6_cut.desc).map (fun d => d.parameters.length) = some 0 := by decide +kernel
theorem nX6_cut_X6 : ∀ w ∈ u_ws RX6 TX6 60, w ∈ wsX6_cut := fun w h => List.mem_cons_of_mem _ (List.mem_append_right _ h)
theorem hX6_cut_166 : Cond.fieldLink RX6 166 (TX6 10).1 (TX6 10).2.1 (TX6 10).2.2.1 ∈ wsX6_cut := by decide +kernel
theorem hX6_cut_157 : Cond.fieldLink RX6 157 (TX6 4).1 (TX6 4).2.1 (TX6 4).2.2.1 ∈ wsX6_cut := by decide +kernel
theorem hX6_cut_34 : Cond.fieldLink RX6 34 (TX6 9).1 (TX6 9).2.1 (TX6 9).2.2.1 ∈ wsX6_cut := by decide +kernel
def fX6_cut_L : Nat → Nat → Int32 → Int32 → Int64 → Int32 → Int32 → Int32 → St → Option (Int32 × St)
  | 0, _, _, _, _, _, _, _, _ => none
  | n + 1, lab, v1, v3, w4, v6, v7, v4, σ => if lab = 0 then (if (400 : Int32) < (σ.1 0 10) then (some ((0 : Int32), σ)) else (qcall (fX6_at σ v1) (fun r19 σ19 => if v1 < (σ19.1 0 4) then (qlet (fun (y67 : Unit) => (qlet (v1 + (1 : Int32)) (fun x67 => fX6_cut_L n 5 x67 0 0 0 0 0 σ19))) (fun j67 => (if r19 = (9 : Int32) then (j67 ()) else (if r19 = (10 : Int32) then (j67 ()) else (if r19 = (13 : Int32) then (j67 ()) else (if r19 = (32 : Int32) then (j67 ()) else (qcall (fX6_isLetter σ19 r19) (fun r74 σ74 => if r74 = (0 : Int32) then (qcall (fX6_isDigit σ74 r19) (fun r197 σ197 => if r197 = (0 : Int32) then (qcall (fX6_at σ197 (v1 + (1 : Int32))) (fun r283 σ283 => qcall (fX6_sign σ283 v1 r19 r283) (fun r286 σ286 => qlet (v1 + r286) (fun x290 => fX6_cut_L n 5 x290 0 0 0 0 0 σ286)))) else (fX6_cut_L n 4 v1 (0 : Int32) 0 0 0 (0 : Int32) σ197))) else (fX6_cut_L n 1 v1 (0 : Int32) (0 : Int64) 0 0 0 σ74))))))))) else (qcall (fX6_token σ19 (0 : Int32) (σ19.1 0 4) (0 : Int32) (0 : Int64)) (fun _ σ39 => some ((0 : Int32), σ39)))))) else if lab = 1 then (qcall (fX6_at σ (v1 + v3)) (fun r89 σ89 => qcall (fX6_isLetter σ89 r89) (fun r92 σ92 => if r92 = (0 : Int32) then (qlet (fun (y135 : Int32) => (if (7 : Int32) < v3 then (fX6_cut_L n 3 v1 v3 w4 y135 0 0 σ92) else (fX6_cut_L n 2 v1 v3 w4 y135 (0 : Int32) 0 σ92))) (fun j135 => (if v3 ≤ (8 : Int32) then (j135 (1 : Int32)) else (j135 (3 : Int32))))) else (qlet (fun (y118 : Int64 × St) => (qlet (v3 + (1 : Int32)) (fun x118 => fX6_cut_L n 1 v1 x118 y118.1 0 0 0 y118.2))) (fun j118 => (if (8 : Int32) ≤ v3 then (j118 (w4, σ92)) else (qcall (fX6_at σ92 (v1 + v3)) (fun r110 σ110 => qcall (fX6_more σ110 w4 r110) (fun r113 σ113 => j118 (r113, σ113)))))))))) else if lab = 2 then (if (14 : Int32) ≤ v7 then (fX6_cut_L n 3 v1 v3 w4 v6 0 0 σ) else (qix v7 14 (qlet (fun (y173 : Int32) => (qlet (v7 + (1 : Int32)) (fun x173 => fX6_cut_L n 2 v1 v3 w4 y173 x173 0 σ))) (fun j173 => (if (lg_cmp (σ.2.1 7 v7.toNatClampNeg) w4) = (0 : Int32) then (qlet ((20 : Int32) + v7) (fun x171 => j173 x171)) else (j173 v6)))))) else if lab = 3 then (qcall (fX6_token σ v6 v1 (0 : Int32) w4) (fun _ σ186 => qlet (v1 + v3) (fun x192 => fX6_cut_L n 5 x192 0 0 0 0 0 σ186))) else if lab = 4 then (qcall (fX6_at σ (v1 + v3)) (fun r212 σ212 => qcall (fX6_isDigit σ212 r212) (fun r215 σ215 => if r215 = (0 : Int32) then (qlet (fun (y261 : Int32) => (qcall (fX6_token σ215 y261 v1 v4 (0 : Int64)) (fun _ σ265 => qlet (v1 + v3) (fun x271 => fX6_cut_L n 5 x271 0 0 0 0 0 σ265)))) (fun j261 => (if v3 ≤ (4 : Int32) then (j261 (2 : Int32)) else (j261 (3 : Int32))))) else (qlet (fun (y244 : Int32 × St) => (qlet (v3 + (1 : Int32)) (fun x244 => fX6_cut_L n 4 v1 x244 0 0 0 y244.1 y244.2))) (fun j244 => (if (4 : Int32) ≤ v3 then (j244 (v4, σ215)) else (qcall (fX6_at σ215 (v1 + v3)) (fun r235 σ235 => qlet ((((10 : Int32) * v4) + r235) - (48 : Int32)) (fun x242 => j244 (x242, σ235)))))))))) else (fX6_cut_L n 0 v1 0 0 0 0 0 σ)
def fX6_cut (σ : St) : Option (Int32 × St) := qlet (sI σ 0 10 (0 : Int32)) (fun σ2 => fX6_cut_L 100000 0 (0 : Int32) 0 0 0 0 0 σ2)
set_option maxHeartbeats 4000000 in
set_option maxRecDepth 100000 in
theorem kX6_cut_L {ad : Nat → Nat} {cy : Nat → ClassId} {X : va_W} {A : Nat → Prop} {D : va_G} {zs : Nat × Nat × Option Nat} {p : Program} {l : Launch} {e : Env} {s : State} {m : MethodId} {args : Array Value} {below : List Frame} {meth : Method} {c : Code} (C : qC ceM 42 ad cy X A D zs cX6_cut 8 RX6 wsX6_cut p s m args meth c none) (r0 : Int32) (σ0 : St) (n : Nat) : (∀ (v1 : Int32) (σ : St), fX6_cut_L n 0 v1 0 0 0 0 0 σ = some (r0, σ0) → qVv ceM 42 ad cy X A D p l e (headSpec wsX6_cut rmX6_cut).room s m args below meth c 8 r0 σ0 7 [(0, .ref (ad 0)), (1, .int v1)] [] σ) ∧ (∀ (v1 : Int32) (v3 : Int32) (w4 : Int64) (σ : St), fX6_cut_L n 1 v1 v3 w4 0 0 0 σ = some (r0, σ0) → qVv ceM 42 ad cy X A D p l e (headSpec wsX6_cut rmX6_cut).room s m args below meth c 8 r0 σ0 85 [(0, .ref (ad 0)), (1, .int v1), (3, .int v3), (4, .long w4)] [] σ) ∧ (∀ (v1 : Int32) (v3 : Int32) (w4 : Int64) (v6 : Int32) (v7 : Int32) (σ : St), fX6_cut_L n 2 v1 v3 w4 v6 v7 0 σ = some (r0, σ0) → qVv ceM 42 ad cy X A D p l e (headSpec wsX6_cut rmX6_cut).room s m args below meth c 8 r0 σ0 146 [(0, .ref (ad 0)), (1, .int v1), (3, .int v3), (4, .long w4), (6, .int v6), (7, .int v7)] [] σ) ∧ (∀ (v1 : Int32) (v3 : Int32) (w4 : Int64) (v6 : Int32) (σ : St), fX6_cut_L n 3 v1 v3 w4 v6 0 0 σ = some (r0, σ0) → qVv ceM 42 ad cy X A D p l e (headSpec wsX6_cut rmX6_cut).room s m args below meth c 8 r0 σ0 179 [(0, .ref (ad 0)), (1, .int v1), (3, .int v3), (4, .long w4), (6, .int v6)] [] σ) ∧ (∀ (v1 : Int32) (v3 : Int32) (v4 : Int32) (σ : St), fX6_cut_L n 4 v1 v3 0 0 0 v4 σ = some (r0, σ0) → qVv ceM 42 ad cy X A D p l e (headSpec wsX6_cut rmX6_cut).room s m args below meth c 8 r0 σ0 208 [(0, .ref (ad 0)), (1, .int v1), (3, .int v3), (4, .int v4)] [] σ) ∧ (∀ (v1 : Int32) (σ : St), fX6_cut_L n 5 v1 0 0 0 0 0 σ = some (r0, σ0) → qVv ceM 42 ad cy X A D p l e (headSpec wsX6_cut rmX6_cut).room s m args below meth c 8 r0 σ0 291 [(0, .ref (ad 0)), (1, .int v1)] [] σ) := by
  induction n with
  | zero =>
    refine ⟨?_, ?_, ?_, ?_, ?_, ?_⟩
    · intro v1 σ h; cases h
    · intro v1 v3 w4 σ h; cases h
    · intro v1 v3 w4 v6 v7 σ h; cases h
    · intro v1 v3 w4 v6 σ h; cases h
    · intro v1 v3 v4 σ h; cases h
    · intro v1 σ h; cases h
  | succ n ih =>
    refine ⟨?_, ?_, ?_, ?_, ?_, ?_⟩
    · intro v1 σ h
      rw [fX6_cut_L] at h
      rw [if_pos rfl] at h
      refine q_aload_n C dX6_cut_7 rfl 0 rfl ?_
      refine q_get C (Cn := RX6) (T := TX6) (Nf := 60) (ci := 6) (id := 0) (k := 10) (v := .int (σ.1 0 10)) nX6_cut_X6 (by decide) (ceM_0 ad cy _ _ _) rfl (by decide) rfl hX6_cut_166 dX6_cut_8 ?_
      refine q_sipush C (v := 400) dX6_cut_11 (by decide) ?_
      refine q_icmp_gt C (tgt := 294) dX6_cut_14 (by decide) h (fun h => ?_) (fun h => ?_)
      · exact q_vret C (r0 := r0) rfl dX6_cut_294 h
      · refine q_aload_n C dX6_cut_17 rfl 0 rfl ?_
        refine q_iload_n C dX6_cut_18 rfl 1 rfl ?_
        refine q_callVi C (rm := rmX6_at) (As := [.int v1]) (rest := []) (id := 0) (ci := 6) (fun r9 σ9 h9 => kX6_at l D ad cy X A zs σ v1 r9 σ9 h9) gX6_cut_X6_at rfl rfl rfl hyX6_at ⟨Nat.le_of_ble_eq_true rfl, Nat.le_of_ble_eq_true rfl⟩ (by decide) (ceM_0 ad cy _ _ _) rfl rfl rfl (Nat.le_of_ble_eq_true rfl) dX6_cut_19 ⟨Nat.zero_le _, Nat.zero_le _⟩ h (fun r19 σ19 h => ?_)
        refine q_istore_n C dX6_cut_22 rfl (by decide) (lv' := [(0, .ref (ad 0)), (1, .int v1), (2, .int r19)]) rfl ?_
        refine q_iload_n C dX6_cut_23 rfl 1 rfl ?_
        refine q_aload_n C dX6_cut_24 rfl 0 rfl ?_
        refine q_get C (Cn := RX6) (T := TX6) (Nf := 60) (ci := 6) (id := 0) (k := 4) (v := .int (σ19.1 0 4)) nX6_cut_X6 (by decide) (ceM_0 ad cy _ _ _) rfl (by decide) rfl hX6_cut_157 dX6_cut_25 ?_
        refine q_icmp_lt C (tgt := 43) dX6_cut_28 (by decide) h (fun h => ?_) (fun h => ?_)
        · refine q_iload_n C dX6_cut_43 rfl 2 rfl ?_
          refine q_bipush C (v := 9) dX6_cut_44 (by decide) ?_
          refine q_join (G := fun (y67 : Unit) => qVv ceM 42 ad cy X A D p l e (headSpec wsX6_cut rmX6_cut).room s m args below meth c 8 r0 σ0 67 [(0, .ref (ad 0)), (1, .int v1)] [] σ19) h (fun y67 h => ?_) (fun j67 hj67 h => ?_)
          · refine q_iincL C dX6_cut_67 1 rfl (by decide) (nv := 1) (by decide) h (lw := fun x67 => [(0, .ref (ad 0)), (1, .int x67)]) (fun _ => rfl) (fun x67 h => ?_)
            refine q_goto C (tgt := 291) dX6_cut_70 (by decide) ?_
            exact q_sub [0, 1] rfl (ih.2.2.2.2.2 x67 σ19 h)
          refine q_icmp_eq C (tgt := 67) dX6_cut_46 (by decide) h (fun h => ?_) (fun h => ?_)
          · exact q_sub [0, 1] rfl (hj67 () h)
          · refine q_iload_n C dX6_cut_49 rfl 2 rfl ?_
            refine q_bipush C (v := 10) dX6_cut_50 (by decide) ?_
            refine q_icmp_eq C (tgt := 67) dX6_cut_52 (by decide) h (fun h => ?_) (fun h => ?_)
            · exact q_sub [0, 1] rfl (hj67 () h)
            · refine q_iload_n C dX6_cut_55 rfl 2 rfl ?_
              refine q_bipush C (v := 13) dX6_cut_56 (by decide) ?_
              refine q_icmp_eq C (tgt := 67) dX6_cut_58 (by decide) h (fun h => ?_) (fun h => ?_)
              · exact q_sub [0, 1] rfl (hj67 () h)
              · refine q_iload_n C dX6_cut_61 rfl 2 rfl ?_
                refine q_bipush C (v := 32) dX6_cut_62 (by decide) ?_
                refine q_icmp_ne C (tgt := 73) dX6_cut_64 (by decide) h (fun h => ?_) (fun h => ?_)
                · refine q_iload_n C dX6_cut_73 rfl 2 rfl ?_
                  refine q_callSi C (rm := rmX6_isLetter) (As := [.int r19]) (rest := []) (fun r9 σ9 h9 => kX6_isLetter l D ad cy X A zs σ19 r19 r9 σ9 h9) gX6_cut_X6_isLetter rfl rfl rfl hyX6_isLetter ⟨Nat.le_of_ble_eq_true rfl, Nat.le_of_ble_eq_true rfl⟩ rfl rfl (Nat.le_of_ble_eq_true rfl) dX6_cut_74 ⟨Nat.zero_le _, Nat.zero_le _⟩ h (fun r74 σ74 h => ?_)
                  refine q_if_eq C (tgt := 196) dX6_cut_77 (by decide) h (fun h => ?_) (fun h => ?_)
                  · refine q_iload_n C dX6_cut_196 rfl 2 rfl ?_
                    refine q_callSi C (rm := rmX6_isDigit) (As := [.int r19]) (rest := []) (fun r9 σ9 h9 => kX6_isDigit l D ad cy X A zs σ74 r19 r9 σ9 h9) gX6_cut_X6_isDigit rfl rfl rfl hyX6_isDigit ⟨Nat.le_of_ble_eq_true rfl, Nat.le_of_ble_eq_true rfl⟩ rfl rfl (Nat.le_of_ble_eq_true rfl) dX6_cut_197 ⟨Nat.zero_le _, Nat.zero_le _⟩ h (fun r197 σ197 h => ?_)
                    refine q_if_eq C (tgt := 275) dX6_cut_200 (by decide) h (fun h => ?_) (fun h => ?_)
                    · refine q_iload_n C dX6_cut_275 rfl 1 rfl ?_
                      refine q_aload_n C dX6_cut_276 rfl 0 rfl ?_
                      refine q_iload_n C dX6_cut_277 rfl 1 rfl ?_
                      refine q_iload_n C dX6_cut_278 rfl 2 rfl ?_
                      refine q_aload_n C dX6_cut_279 rfl 0 rfl ?_
                      refine q_iload_n C dX6_cut_280 rfl 1 rfl ?_
                      refine q_iconst C (v := 1) dX6_cut_281 (by decide) ?_
                      refine q_iadd C dX6_cut_282 ?_
                      refine q_callVi C (rm := rmX6_at) (As := [.int (v1 + (1 : Int32))]) (rest := [.int r19, .int v1, .ref (ad 0), .int v1]) (id := 0) (ci := 6) (fun r9 σ9 h9 => kX6_at l D ad cy X A zs σ197 (v1 + (1 : Int32)) r9 σ9 h9) gX6_cut_X6_at rfl rfl rfl hyX6_at ⟨Nat.le_of_ble_eq_true rfl, Nat.le_of_ble_eq_true rfl⟩ (by decide) (ceM_0 ad cy _ _ _) rfl rfl rfl (Nat.le_of_ble_eq_true rfl) dX6_cut_283 ⟨Nat.zero_le _, Nat.zero_le _⟩ h (fun r283 σ283 h => ?_)
                      refine q_callVi C (rm := rmX6_sign) (As := [.int v1, .int r19, .int r283]) (rest := [.int v1]) (id := 0) (ci := 6) (fun r9 σ9 h9 => kX6_sign l D ad cy X A zs σ283 v1 r19 r283 r9 σ9 h9) gX6_cut_X6_sign rfl rfl rfl hyX6_sign ⟨Nat.le_of_ble_eq_true rfl, Nat.le_of_ble_eq_true rfl⟩ (by decide) (ceM_0 ad cy _ _ _) rfl rfl rfl (Nat.le_of_ble_eq_true rfl) dX6_cut_286 ⟨Nat.zero_le _, Nat.zero_le _⟩ h (fun r286 σ286 h => ?_)
                      refine q_iadd C dX6_cut_289 ?_
                      refine q_istore_nL C dX6_cut_290 rfl (by decide) h (lw := fun x290 => [(0, .ref (ad 0)), (1, .int x290), (2, .int r19)]) (fun _ => rfl) (fun x290 h => ?_)
                      exact q_sub [0, 1] rfl (ih.2.2.2.2.2 x290 σ286 h)
                    · refine q_iconst C (v := 0) dX6_cut_203 (by decide) ?_
                      refine q_istore_n C dX6_cut_204 rfl (by decide) (lv' := [(0, .ref (ad 0)), (1, .int v1), (2, .int r19), (3, .int (0 : Int32))]) rfl ?_
                      refine q_iconst C (v := 0) dX6_cut_205 (by decide) ?_
                      refine q_istore C dX6_cut_206 (by decide) (lv' := [(0, .ref (ad 0)), (1, .int v1), (2, .int r19), (3, .int (0 : Int32)), (4, .int (0 : Int32))]) rfl ?_
                      exact q_sub [0, 1, 3, 4] rfl (ih.2.2.2.2.1 v1 (0 : Int32) (0 : Int32) σ197 h)
                  · refine q_iconst C (v := 0) dX6_cut_80 (by decide) ?_
                    refine q_istore_n C dX6_cut_81 rfl (by decide) (lv' := [(0, .ref (ad 0)), (1, .int v1), (2, .int r19), (3, .int (0 : Int32))]) rfl ?_
                    refine q_lconst C (v := 0) dX6_cut_82 (by decide) ?_
                    refine q_lstore C dX6_cut_83 (by decide) (lv' := [(0, .ref (ad 0)), (1, .int v1), (2, .int r19), (3, .int (0 : Int32)), (4, .long (0 : Int64))]) rfl ?_
                    exact q_sub [0, 1, 3, 4] rfl (ih.2.1 v1 (0 : Int32) (0 : Int64) σ74 h)
                · exact q_sub [0, 1] rfl (hj67 () h)
        · refine q_aload_n C dX6_cut_31 rfl 0 rfl ?_
          refine q_iconst C (v := 0) dX6_cut_32 (by decide) ?_
          refine q_aload_n C dX6_cut_33 rfl 0 rfl ?_
          refine q_get C (Cn := RX6) (T := TX6) (Nf := 60) (ci := 6) (id := 0) (k := 4) (v := .int (σ19.1 0 4)) nX6_cut_X6 (by decide) (ceM_0 ad cy _ _ _) rfl (by decide) rfl hX6_cut_157 dX6_cut_34 ?_
          refine q_iconst C (v := 0) dX6_cut_37 (by decide) ?_
          refine q_lconst C (v := 0) dX6_cut_38 (by decide) ?_
          refine q_callVv C (rm := rmX6_token) (As := [.int (0 : Int32), .int (σ19.1 0 4), .int (0 : Int32), .long (0 : Int64)]) (rest := []) (id := 0) (ci := 6) (fun r9 σ9 h9 => kX6_token l D ad cy X A zs σ19 (0 : Int32) (σ19.1 0 4) (0 : Int32) (0 : Int64) r9 σ9 h9) gX6_cut_X6_token rfl rfl rfl hyX6_token ⟨Nat.le_of_ble_eq_true rfl, Nat.le_of_ble_eq_true rfl⟩ (by decide) (ceM_0 ad cy _ _ _) rfl rfl rfl (Nat.le_of_ble_eq_true rfl) dX6_cut_39 ⟨Nat.zero_le _, Nat.zero_le _⟩ h (fun r39 σ39 h => ?_)
          exact q_vret C (r0 := r0) rfl dX6_cut_42 h
    · intro v1 v3 w4 σ h
      rw [fX6_cut_L] at h
      rw [if_neg (by decide)] at h
      rw [if_pos rfl] at h
      refine q_aload_n C dX6_cut_85 rfl 0 rfl ?_
      refine q_iload_n C dX6_cut_86 rfl 1 rfl ?_
      refine q_iload_n C dX6_cut_87 rfl 2 rfl ?_
      refine q_iadd C dX6_cut_88 ?_
      refine q_callVi C (rm := rmX6_at) (As := [.int (v1 + v3)]) (rest := []) (id := 0) (ci := 6) (fun r9 σ9 h9 => kX6_at l D ad cy X A zs σ (v1 + v3) r9 σ9 h9) gX6_cut_X6_at rfl rfl rfl hyX6_at ⟨Nat.le_of_ble_eq_true rfl, Nat.le_of_ble_eq_true rfl⟩ (by decide) (ceM_0 ad cy _ _ _) rfl rfl rfl (Nat.le_of_ble_eq_true rfl) dX6_cut_89 ⟨Nat.zero_le _, Nat.zero_le _⟩ h (fun r89 σ89 h => ?_)
      refine q_callSi C (rm := rmX6_isLetter) (As := [.int r89]) (rest := []) (fun r9 σ9 h9 => kX6_isLetter l D ad cy X A zs σ89 r89 r9 σ9 h9) gX6_cut_X6_isLetter rfl rfl rfl hyX6_isLetter ⟨Nat.le_of_ble_eq_true rfl, Nat.le_of_ble_eq_true rfl⟩ rfl rfl (Nat.le_of_ble_eq_true rfl) dX6_cut_92 ⟨Nat.zero_le _, Nat.zero_le _⟩ h (fun r92 σ92 h => ?_)
      refine q_if_eq C (tgt := 124) dX6_cut_95 (by decide) h (fun h => ?_) (fun h => ?_)
      · refine q_iload_n C dX6_cut_124 rfl 2 rfl ?_
        refine q_bipush C (v := 8) dX6_cut_125 (by decide) ?_
        refine q_join (G := fun (y135 : Int32) => qVv ceM 42 ad cy X A D p l e (headSpec wsX6_cut rmX6_cut).room s m args below meth c 8 r0 σ0 135 [(0, .ref (ad 0)), (1, .int v1), (3, .int v3), (4, .long w4)] [.int y135] σ92) h (fun y135 h => ?_) (fun j135 hj135 h => ?_)
        · refine q_istore C dX6_cut_135 (by decide) (lv' := [(0, .ref (ad 0)), (1, .int v1), (3, .int v3), (4, .long w4), (6, .int y135)]) rfl ?_
          refine q_iload_n C dX6_cut_137 rfl 2 rfl ?_
          refine q_bipush C (v := 7) dX6_cut_138 (by decide) ?_
          refine q_icmp_gt C (tgt := 179) dX6_cut_140 (by decide) h (fun h => ?_) (fun h => ?_)
          · exact q_sub [0, 1, 2, 3, 4] rfl (ih.2.2.2.1 v1 v3 w4 y135 σ92 h)
          · refine q_iconst C (v := 0) dX6_cut_143 (by decide) ?_
            refine q_istore C dX6_cut_144 (by decide) (lv' := [(0, .ref (ad 0)), (1, .int v1), (3, .int v3), (4, .long w4), (6, .int y135), (7, .int (0 : Int32))]) rfl ?_
            exact q_sub [0, 1, 2, 3, 4, 5] rfl (ih.2.2.1 v1 v3 w4 y135 (0 : Int32) σ92 h)
        refine q_icmp_le C (tgt := 134) dX6_cut_127 (by decide) h (fun h => ?_) (fun h => ?_)
        · refine q_iconst C (v := 1) dX6_cut_134 (by decide) ?_
          exact q_sub [0, 1, 2, 3] rfl (hj135 (1 : Int32) h)
        · refine q_iconst C (v := 3) dX6_cut_130 (by decide) ?_
          refine q_goto C (tgt := 135) dX6_cut_131 (by decide) ?_
          exact q_sub [0, 1, 2, 3] rfl (hj135 (3 : Int32) h)
      · refine q_iload_n C dX6_cut_98 rfl 2 rfl ?_
        refine q_bipush C (v := 8) dX6_cut_99 (by decide) ?_
        refine q_join (G := fun (y118 : Int64 × St) => qVv ceM 42 ad cy X A D p l e (headSpec wsX6_cut rmX6_cut).room s m args below meth c 8 r0 σ0 118 [(0, .ref (ad 0)), (1, .int v1), (3, .int v3), (4, .long y118.1)] [] y118.2) h (fun y118 h => ?_) (fun j118 hj118 h => ?_)
        · refine q_iincL C dX6_cut_118 2 rfl (by decide) (nv := 1) (by decide) h (lw := fun x118 => [(0, .ref (ad 0)), (1, .int v1), (3, .int x118), (4, .long y118.1)]) (fun _ => rfl) (fun x118 h => ?_)
          refine q_goto C (tgt := 85) dX6_cut_121 (by decide) ?_
          exact q_sub [0, 1, 2, 3] rfl (ih.2.1 v1 x118 y118.1 y118.2 h)
        refine q_icmp_ge C (tgt := 118) dX6_cut_101 (by decide) h (fun h => ?_) (fun h => ?_)
        · exact q_sub [0, 1, 2, 3] rfl (hj118 (w4, σ92) h)
        · refine q_lload C dX6_cut_104 3 rfl ?_
          refine q_aload_n C dX6_cut_106 rfl 0 rfl ?_
          refine q_iload_n C dX6_cut_107 rfl 1 rfl ?_
          refine q_iload_n C dX6_cut_108 rfl 2 rfl ?_
          refine q_iadd C dX6_cut_109 ?_
          refine q_callVi C (rm := rmX6_at) (As := [.int (v1 + v3)]) (rest := [.long w4]) (id := 0) (ci := 6) (fun r9 σ9 h9 => kX6_at l D ad cy X A zs σ92 (v1 + v3) r9 σ9 h9) gX6_cut_X6_at rfl rfl rfl hyX6_at ⟨Nat.le_of_ble_eq_true rfl, Nat.le_of_ble_eq_true rfl⟩ (by decide) (ceM_0 ad cy _ _ _) rfl rfl rfl (Nat.le_of_ble_eq_true rfl) dX6_cut_110 ⟨Nat.zero_le _, Nat.zero_le _⟩ h (fun r110 σ110 h => ?_)
          refine q_callSl C (rm := rmX6_more) (As := [.long w4, .int r110]) (rest := []) (fun r9 σ9 h9 => kX6_more l D ad cy X A zs σ110 w4 r110 r9 σ9 h9) gX6_cut_X6_more rfl rfl rfl hyX6_more ⟨Nat.le_of_ble_eq_true rfl, Nat.le_of_ble_eq_true rfl⟩ rfl rfl (Nat.le_of_ble_eq_true rfl) dX6_cut_113 ⟨Nat.zero_le _, Nat.zero_le _⟩ h (fun r113 σ113 h => ?_)
          refine q_lstore C dX6_cut_116 (by decide) (lv' := [(0, .ref (ad 0)), (1, .int v1), (3, .int v3), (4, .long r113)]) rfl ?_
          exact q_sub [0, 1, 2, 3] rfl (hj118 (r113, σ113) h)
    · intro v1 v3 w4 v6 v7 σ h
      rw [fX6_cut_L] at h
      rw [if_neg (by decide)] at h
      rw [if_neg (by decide)] at h
      rw [if_pos rfl] at h
      refine q_iload C dX6_cut_146 5 rfl ?_
      refine q_bipush C (v := 14) dX6_cut_148 (by decide) ?_
      refine q_icmp_ge C (tgt := 179) dX6_cut_150 (by decide) h (fun h => ?_) (fun h => ?_)
      · exact q_sub [0, 1, 2, 3, 4] rfl (ih.2.2.2.1 v1 v3 w4 v6 σ h)
      · refine q_aload_n C dX6_cut_153 rfl 0 rfl ?_
        refine q_get C (Cn := RX6) (T := TX6) (Nf := 60) (ci := 6) (id := 0) (k := 9) (v := .ref (ad 7)) nX6_cut_X6 (by decide) (ceM_0 ad cy _ _ _) rfl (by decide) rfl hX6_cut_34 dX6_cut_154 ?_
        refine q_iload C dX6_cut_157 5 rfl ?_
        refine q_lald C (id := 7) (by decide) (ceM_7 ad cy _ _ _) dX6_cut_159 h (fun h => ?_)
        refine q_lload C dX6_cut_160 3 rfl ?_
        refine q_lcmp C dX6_cut_162 ?_
        refine q_join (G := fun (y173 : Int32) => qVv ceM 42 ad cy X A D p l e (headSpec wsX6_cut rmX6_cut).room s m args below meth c 8 r0 σ0 173 [(0, .ref (ad 0)), (1, .int v1), (3, .int v3), (4, .long w4), (6, .int y173), (7, .int v7)] [] σ) h (fun y173 h => ?_) (fun j173 hj173 h => ?_)
        · refine q_iincL C dX6_cut_173 5 rfl (by decide) (nv := 1) (by decide) h (lw := fun x173 => [(0, .ref (ad 0)), (1, .int v1), (3, .int v3), (4, .long w4), (6, .int y173), (7, .int x173)]) (fun _ => rfl) (fun x173 h => ?_)
          refine q_goto C (tgt := 146) dX6_cut_176 (by decide) ?_
          exact q_sub [0, 1, 2, 3, 4, 5] rfl (ih.2.2.1 v1 v3 w4 y173 x173 σ h)
        refine q_if_ne C (tgt := 173) dX6_cut_163 (by decide) h (fun h => ?_) (fun h => ?_)
        · exact q_sub [0, 1, 2, 3, 4, 5] rfl (hj173 v6 h)
        · refine q_bipush C (v := 20) dX6_cut_166 (by decide) ?_
          refine q_iload C dX6_cut_168 5 rfl ?_
          refine q_iadd C dX6_cut_170 ?_
          refine q_istoreL C dX6_cut_171 (by decide) h (lw := fun x171 => [(0, .ref (ad 0)), (1, .int v1), (3, .int v3), (4, .long w4), (6, .int x171), (7, .int v7)]) (fun _ => rfl) (fun x171 h => ?_)
          exact q_sub [0, 1, 2, 3, 4, 5] rfl (hj173 x171 h)
    · intro v1 v3 w4 v6 σ h
      rw [fX6_cut_L] at h
      rw [if_neg (by decide)] at h
      rw [if_neg (by decide)] at h
      rw [if_neg (by decide)] at h
      rw [if_pos rfl] at h
      refine q_aload_n C dX6_cut_179 rfl 0 rfl ?_
      refine q_iload C dX6_cut_180 4 rfl ?_
      refine q_iload_n C dX6_cut_182 rfl 1 rfl ?_
      refine q_iconst C (v := 0) dX6_cut_183 (by decide) ?_
      refine q_lload C dX6_cut_184 3 rfl ?_
      refine q_callVv C (rm := rmX6_token) (As := [.int v6, .int v1, .int (0 : Int32), .long w4]) (rest := []) (id := 0) (ci := 6) (fun r9 σ9 h9 => kX6_token l D ad cy X A zs σ v6 v1 (0 : Int32) w4 r9 σ9 h9) gX6_cut_X6_token rfl rfl rfl hyX6_token ⟨Nat.le_of_ble_eq_true rfl, Nat.le_of_ble_eq_true rfl⟩ (by decide) (ceM_0 ad cy _ _ _) rfl rfl rfl (Nat.le_of_ble_eq_true rfl) dX6_cut_186 ⟨Nat.zero_le _, Nat.zero_le _⟩ h (fun r186 σ186 h => ?_)
      refine q_iload_n C dX6_cut_189 rfl 1 rfl ?_
      refine q_iload_n C dX6_cut_190 rfl 2 rfl ?_
      refine q_iadd C dX6_cut_191 ?_
      refine q_istore_nL C dX6_cut_192 rfl (by decide) h (lw := fun x192 => [(0, .ref (ad 0)), (1, .int x192), (3, .int v3), (4, .long w4), (6, .int v6)]) (fun _ => rfl) (fun x192 h => ?_)
      refine q_goto C (tgt := 291) dX6_cut_193 (by decide) ?_
      exact q_sub [0, 1] rfl (ih.2.2.2.2.2 x192 σ186 h)
    · intro v1 v3 v4 σ h
      rw [fX6_cut_L] at h
      rw [if_neg (by decide)] at h
      rw [if_neg (by decide)] at h
      rw [if_neg (by decide)] at h
      rw [if_neg (by decide)] at h
      rw [if_pos rfl] at h
      refine q_aload_n C dX6_cut_208 rfl 0 rfl ?_
      refine q_iload_n C dX6_cut_209 rfl 1 rfl ?_
      refine q_iload_n C dX6_cut_210 rfl 2 rfl ?_
      refine q_iadd C dX6_cut_211 ?_
      refine q_callVi C (rm := rmX6_at) (As := [.int (v1 + v3)]) (rest := []) (id := 0) (ci := 6) (fun r9 σ9 h9 => kX6_at l D ad cy X A zs σ (v1 + v3) r9 σ9 h9) gX6_cut_X6_at rfl rfl rfl hyX6_at ⟨Nat.le_of_ble_eq_true rfl, Nat.le_of_ble_eq_true rfl⟩ (by decide) (ceM_0 ad cy _ _ _) rfl rfl rfl (Nat.le_of_ble_eq_true rfl) dX6_cut_212 ⟨Nat.zero_le _, Nat.zero_le _⟩ h (fun r212 σ212 h => ?_)
      refine q_callSi C (rm := rmX6_isDigit) (As := [.int r212]) (rest := []) (fun r9 σ9 h9 => kX6_isDigit l D ad cy X A zs σ212 r212 r9 σ9 h9) gX6_cut_X6_isDigit rfl rfl rfl hyX6_isDigit ⟨Nat.le_of_ble_eq_true rfl, Nat.le_of_ble_eq_true rfl⟩ rfl rfl (Nat.le_of_ble_eq_true rfl) dX6_cut_215 ⟨Nat.zero_le _, Nat.zero_le _⟩ h (fun r215 σ215 h => ?_)
      refine q_if_eq C (tgt := 250) dX6_cut_218 (by decide) h (fun h => ?_) (fun h => ?_)
      · refine q_aload_n C dX6_cut_250 rfl 0 rfl ?_
        refine q_iload_n C dX6_cut_251 rfl 2 rfl ?_
        refine q_iconst C (v := 4) dX6_cut_252 (by decide) ?_
        refine q_join (G := fun (y261 : Int32) => qVv ceM 42 ad cy X A D p l e (headSpec wsX6_cut rmX6_cut).room s m args below meth c 8 r0 σ0 261 [(0, .ref (ad 0)), (1, .int v1), (3, .int v3), (4, .int v4)] [.int y261, .ref (ad 0)] σ215) h (fun y261 h => ?_) (fun j261 hj261 h => ?_)
        · refine q_iload_n C dX6_cut_261 rfl 1 rfl ?_
          refine q_iload C dX6_cut_262 3 rfl ?_
          refine q_lconst C (v := 0) dX6_cut_264 (by decide) ?_
          refine q_callVv C (rm := rmX6_token) (As := [.int y261, .int v1, .int v4, .long (0 : Int64)]) (rest := []) (id := 0) (ci := 6) (fun r9 σ9 h9 => kX6_token l D ad cy X A zs σ215 y261 v1 v4 (0 : Int64) r9 σ9 h9) gX6_cut_X6_token rfl rfl rfl hyX6_token ⟨Nat.le_of_ble_eq_true rfl, Nat.le_of_ble_eq_true rfl⟩ (by decide) (ceM_0 ad cy _ _ _) rfl rfl rfl (Nat.le_of_ble_eq_true rfl) dX6_cut_265 ⟨Nat.zero_le _, Nat.zero_le _⟩ h (fun r265 σ265 h => ?_)
          refine q_iload_n C dX6_cut_268 rfl 1 rfl ?_
          refine q_iload_n C dX6_cut_269 rfl 2 rfl ?_
          refine q_iadd C dX6_cut_270 ?_
          refine q_istore_nL C dX6_cut_271 rfl (by decide) h (lw := fun x271 => [(0, .ref (ad 0)), (1, .int x271), (3, .int v3), (4, .int v4)]) (fun _ => rfl) (fun x271 h => ?_)
          refine q_goto C (tgt := 291) dX6_cut_272 (by decide) ?_
          exact q_sub [0, 1] rfl (ih.2.2.2.2.2 x271 σ265 h)
        refine q_icmp_le C (tgt := 260) dX6_cut_253 (by decide) h (fun h => ?_) (fun h => ?_)
        · refine q_iconst C (v := 2) dX6_cut_260 (by decide) ?_
          exact q_sub [0, 1, 2, 3] rfl (hj261 (2 : Int32) h)
        · refine q_iconst C (v := 3) dX6_cut_256 (by decide) ?_
          refine q_goto C (tgt := 261) dX6_cut_257 (by decide) ?_
          exact q_sub [0, 1, 2, 3] rfl (hj261 (3 : Int32) h)
      · refine q_iload_n C dX6_cut_221 rfl 2 rfl ?_
        refine q_iconst C (v := 4) dX6_cut_222 (by decide) ?_
        refine q_join (G := fun (y244 : Int32 × St) => qVv ceM 42 ad cy X A D p l e (headSpec wsX6_cut rmX6_cut).room s m args below meth c 8 r0 σ0 244 [(0, .ref (ad 0)), (1, .int v1), (3, .int v3), (4, .int y244.1)] [] y244.2) h (fun y244 h => ?_) (fun j244 hj244 h => ?_)
        · refine q_iincL C dX6_cut_244 2 rfl (by decide) (nv := 1) (by decide) h (lw := fun x244 => [(0, .ref (ad 0)), (1, .int v1), (3, .int x244), (4, .int y244.1)]) (fun _ => rfl) (fun x244 h => ?_)
          refine q_goto C (tgt := 208) dX6_cut_247 (by decide) ?_
          exact q_sub [0, 1, 2, 3] rfl (ih.2.2.2.2.1 v1 x244 y244.1 y244.2 h)
        refine q_icmp_ge C (tgt := 244) dX6_cut_223 (by decide) h (fun h => ?_) (fun h => ?_)
        · exact q_sub [0, 1, 2, 3] rfl (hj244 (v4, σ215) h)
        · refine q_bipush C (v := 10) dX6_cut_226 (by decide) ?_
          refine q_iload C dX6_cut_228 3 rfl ?_
          refine q_imul C dX6_cut_230 ?_
          refine q_aload_n C dX6_cut_231 rfl 0 rfl ?_
          refine q_iload_n C dX6_cut_232 rfl 1 rfl ?_
          refine q_iload_n C dX6_cut_233 rfl 2 rfl ?_
          refine q_iadd C dX6_cut_234 ?_
          refine q_callVi C (rm := rmX6_at) (As := [.int (v1 + v3)]) (rest := [.int ((10 : Int32) * v4)]) (id := 0) (ci := 6) (fun r9 σ9 h9 => kX6_at l D ad cy X A zs σ215 (v1 + v3) r9 σ9 h9) gX6_cut_X6_at rfl rfl rfl hyX6_at ⟨Nat.le_of_ble_eq_true rfl, Nat.le_of_ble_eq_true rfl⟩ (by decide) (ceM_0 ad cy _ _ _) rfl rfl rfl (Nat.le_of_ble_eq_true rfl) dX6_cut_235 ⟨Nat.zero_le _, Nat.zero_le _⟩ h (fun r235 σ235 h => ?_)
          refine q_iadd C dX6_cut_238 ?_
          refine q_bipush C (v := 48) dX6_cut_239 (by decide) ?_
          refine q_isub C dX6_cut_241 ?_
          refine q_istoreL C dX6_cut_242 (by decide) h (lw := fun x242 => [(0, .ref (ad 0)), (1, .int v1), (3, .int v3), (4, .int x242)]) (fun _ => rfl) (fun x242 h => ?_)
          exact q_sub [0, 1, 2, 3] rfl (hj244 (x242, σ235) h)
    · intro v1 σ h
      rw [fX6_cut_L] at h
      rw [if_neg (by decide)] at h
      rw [if_neg (by decide)] at h
      rw [if_neg (by decide)] at h
      rw [if_neg (by decide)] at h
      rw [if_neg (by decide)] at h
      refine q_goto C (tgt := 7) dX6_cut_291 (by decide) ?_
      exact q_sub [0, 1] rfl (ih.1 v1 σ h)
set_option maxHeartbeats 4000000 in
set_option maxRecDepth 100000 in
theorem kX6_cut (l : Launch) (D : va_G) (ad : Nat → Nat) (cy : Nat → ClassId) (X : va_W) (A : Nat → Prop) (zs : Nat × Nat × Option Nat) (σ : St) (r0 : Int32) (σ0 : St) (h : fX6_cut σ = some (r0, σ0)) : Met l yX6_cut wsX6_cut rmX6_cut (qPc ceM 42 ad cy X A D zs [.ref (ad 0)] σ) (qQv ceM 42 ad cy X A D σ0) 0 0 A := by
  refine Met.ofW (cc := cX6_cut) (maxL := 8) (ret := none) (by decide) rfl ?_
  intro p e s m args below meth c s₁ B hml hv
  obtain ⟨ha, hP, hK, hE, hD⟩ := hv
  have C : qC ceM 42 ad cy X A D zs cX6_cut 8 RX6 wsX6_cut p s m args meth c none := ⟨B.exec, B.bytes, hml, findClass_of_methodNamed B.named, atoms_spec (ws := wsX6_cut) B.pre, hK, hD, B.returns, B.notSynchronized, hE⟩
  rw [show entryFrame m args 8 = entryFrame m ([.ref (ad 0)] : List Value).toArray 8 by rw [ha]]
  refine q_entry (A := A) (Nat.le_of_ble_eq_true rfl) hP (lv := [(0, .ref (ad 0))]) rfl ?_
  unfold fX6_cut at h
  refine q_aload_n C dX6_cut_0 rfl 0 rfl ?_
  refine q_iconst C (v := 0) dX6_cut_1 (by decide) ?_
  refine q_put C (Cn := RX6) (T := TX6) (ty0 := tyX6) (Nf := 60) (ci := 6) (id := 0) (k := 10) (y := 0) tyX6_ok nmX6 nX6_cut_X6 (by decide) (ceM_0 ad cy _ _ _) (ceM_0 ad cy _ _ _) rfl (by decide) rfl (by decide +kernel) (Nat.le_of_ble_eq_true rfl) hX6_cut_166 dX6_cut_2 h (fun σ2 h => ?_)
  refine q_iconst C (v := 0) dX6_cut_5 (by decide) ?_
  refine q_istore_n C dX6_cut_6 rfl (by decide) (lv' := [(0, .ref (ad 0)), (1, .int (0 : Int32))]) rfl ?_
  exact q_sub [0, 1] rfl ((kX6_cut_L C r0 σ0 100000).1 (0 : Int32) σ2 h)
abbrev rmX6_is : Room := { frames := 0, cells := 0, slots := 0, locals := 0 }
theorem hyX6_is : yX6_is.cls = RX6 ∧ yX6_is.cls ≠ "java/lang/invoke/MethodHandle" ∧ yX6_is.cls ≠ "java/lang/invoke/VarHandle" ∧ (parseMethodDescriptor yX6_is.desc).map (fun d => d.parameters.length) = some 1 := by decide +kernel
theorem nX6_is_X6 : ∀ w ∈ u_ws RX6 TX6 60, w ∈ wsX6_is := by decide +kernel
theorem hX6_is_188 : Cond.fieldLink RX6 188 (TX6 13).1 (TX6 13).2.1 (TX6 13).2.2.1 ∈ wsX6_is := by decide +kernel
theorem hX6_is_20 : Cond.fieldLink RX6 20 (TX6 5).1 (TX6 5).2.1 (TX6 5).2.2.1 ∈ wsX6_is := by decide +kernel
theorem hX6_is_191 : Cond.fieldLink RX6 191 (TX6 11).1 (TX6 11).2.1 (TX6 11).2.2.1 ∈ wsX6_is := by decide +kernel
def fX6_is (σ : St) (a1 : Int32) : Option (Int32 × St) := qlet (fun (y25 : Int32) => (qzz y25 (some (y25, σ)))) (fun j25 => (qlet (fun (y24 : Unit) => (j25 (0 : Int32))) (fun j24 => (if (σ.1 0 13) = (0 : Int32) then (qix (σ.1 0 11) 403 (if (σ.1 3 (σ.1 0 11).toNatClampNeg) = a1 then (j25 (1 : Int32)) else (j24 ()))) else (j24 ())))))
set_option maxHeartbeats 4000000 in
set_option maxRecDepth 100000 in
theorem kX6_is (l : Launch) (D : va_G) (ad : Nat → Nat) (cy : Nat → ClassId) (X : va_W) (A : Nat → Prop) (zs : Nat × Nat × Option Nat) (σ : St) (a1 : Int32) (r0 : Int32) (σ0 : St) (h : fX6_is σ a1 = some (r0, σ0)) : Met l yX6_is wsX6_is rmX6_is (qPc ceM 42 ad cy X A D zs [.ref (ad 0), .int a1] σ) (qQi ceM 42 ad cy X A D r0 σ0) 0 0 A := by
  refine Met.ofW (cc := cX6_is) (maxL := 2) (ret := (some .boolean)) (by decide) rfl ?_
  intro p e s m args below meth c s₁ B hml hv
  obtain ⟨ha, hP, hK, hE, hD⟩ := hv
  have C : qC ceM 42 ad cy X A D zs cX6_is 2 RX6 wsX6_is p s m args meth c (some .boolean) := ⟨B.exec, B.bytes, hml, findClass_of_methodNamed B.named, atoms_spec (ws := wsX6_is) B.pre, hK, hD, B.returns, B.notSynchronized, hE⟩
  rw [show entryFrame m args 2 = entryFrame m ([.ref (ad 0), .int a1] : List Value).toArray 2 by rw [ha]]
  refine q_entry (A := A) (Nat.le_of_ble_eq_true rfl) hP (lv := [(0, .ref (ad 0)), (1, .int a1)]) rfl ?_
  unfold fX6_is at h
  refine q_aload_n C dX6_is_0 rfl 0 rfl ?_
  refine q_get C (Cn := RX6) (T := TX6) (Nf := 60) (ci := 6) (id := 0) (k := 13) (v := .int (σ.1 0 13)) nX6_is_X6 (by decide) (ceM_0 ad cy _ _ _) rfl (by decide) rfl hX6_is_188 dX6_is_1 ?_
  refine q_join (G := fun (y25 : Int32) => qVi ceM 42 ad cy X A D p l e (headSpec wsX6_is rmX6_is).room s m args below meth c 2 r0 σ0 25 [] [.int y25] σ) h (fun y25 h => ?_) (fun j25 hj25 h => ?_)
  · exact q_zret C rfl dX6_is_25 h
  refine q_join (G := fun (y24 : Unit) => qVi ceM 42 ad cy X A D p l e (headSpec wsX6_is rmX6_is).room s m args below meth c 2 r0 σ0 24 [] [] σ) h (fun y24 h => ?_) (fun j24 hj24 h => ?_)
  · refine q_iconst C (v := 0) dX6_is_24 (by decide) ?_
    exact q_sub [] rfl (hj25 (0 : Int32) h)
  refine q_if_ne C (tgt := 24) dX6_is_4 (by decide) h (fun h => ?_) (fun h => ?_)
  · exact q_sub [] rfl (hj24 () h)
  · refine q_aload_n C dX6_is_7 rfl 0 rfl ?_
    refine q_get C (Cn := RX6) (T := TX6) (Nf := 60) (ci := 6) (id := 0) (k := 5) (v := .ref (ad 3)) nX6_is_X6 (by decide) (ceM_0 ad cy _ _ _) rfl (by decide) rfl hX6_is_20 dX6_is_8 ?_
    refine q_aload_n C dX6_is_11 rfl 0 rfl ?_
    refine q_get C (Cn := RX6) (T := TX6) (Nf := 60) (ci := 6) (id := 0) (k := 11) (v := .int (σ.1 0 11)) nX6_is_X6 (by decide) (ceM_0 ad cy _ _ _) rfl (by decide) rfl hX6_is_191 dX6_is_12 ?_
    refine q_iald C (id := 3) (by decide) (ceM_3 ad cy _ _ _) dX6_is_15 h (fun h => ?_)
    refine q_iload_n C dX6_is_16 rfl 1 rfl ?_
    refine q_icmp_ne C (tgt := 24) dX6_is_17 (by decide) h (fun h => ?_) (fun h => ?_)
    · exact q_sub [] rfl (hj24 () h)
    · refine q_iconst C (v := 1) dX6_is_20 (by decide) ?_
      refine q_goto C (tgt := 25) dX6_is_21 (by decide) ?_
      exact q_sub [] rfl (hj25 (1 : Int32) h)
abbrev rmX6_fail : Room := { frames := 0, cells := 0, slots := 0, locals := 0 }
theorem hyX6_fail : yX6_fail.cls = RX6 ∧ yX6_fail.cls ≠ "java/lang/invoke/MethodHandle" ∧ yX6_fail.cls ≠ "java/lang/invoke/VarHandle" ∧ (parseMethodDescriptor yX6_fail.desc).map (fun d => d.parameters.length) = some 1 := by decide +kernel
theorem nX6_fail_X6 : ∀ w ∈ u_ws RX6 TX6 60, w ∈ wsX6_fail := by decide +kernel
theorem hX6_fail_188 : Cond.fieldLink RX6 188 (TX6 13).1 (TX6 13).2.1 (TX6 13).2.2.1 ∈ wsX6_fail := by decide +kernel
theorem hX6_fail_24 : Cond.fieldLink RX6 24 (TX6 6).1 (TX6 6).2.1 (TX6 6).2.2.1 ∈ wsX6_fail := by decide +kernel
theorem hX6_fail_191 : Cond.fieldLink RX6 191 (TX6 11).1 (TX6 11).2.1 (TX6 11).2.2.1 ∈ wsX6_fail := by decide +kernel
theorem hX6_fail_194 : Cond.fieldLink RX6 194 (TX6 14).1 (TX6 14).2.1 (TX6 14).2.2.1 ∈ wsX6_fail := by decide +kernel
def fX6_fail (σ : St) (a1 : Int32) : Option (Int32 × St) := if (σ.1 0 13) ≤ (0 : Int32) then (qlet (sI σ 0 13 a1) (fun σ10 => qix (σ10.1 0 11) 403 (qlet (sI σ10 0 14 (σ10.1 4 (σ10.1 0 11).toNatClampNeg)) (fun σ23 => some ((0 : Int32), σ23))))) else (some ((0 : Int32), σ))
set_option maxHeartbeats 4000000 in
set_option maxRecDepth 100000 in
theorem kX6_fail (l : Launch) (D : va_G) (ad : Nat → Nat) (cy : Nat → ClassId) (X : va_W) (A : Nat → Prop) (zs : Nat × Nat × Option Nat) (σ : St) (a1 : Int32) (r0 : Int32) (σ0 : St) (h : fX6_fail σ a1 = some (r0, σ0)) : Met l yX6_fail wsX6_fail rmX6_fail (qPc ceM 42 ad cy X A D zs [.ref (ad 0), .int a1] σ) (qQv ceM 42 ad cy X A D σ0) 0 0 A := by
  refine Met.ofW (cc := cX6_fail) (maxL := 2) (ret := none) (by decide) rfl ?_
  intro p e s m args below meth c s₁ B hml hv
  obtain ⟨ha, hP, hK, hE, hD⟩ := hv
  have C : qC ceM 42 ad cy X A D zs cX6_fail 2 RX6 wsX6_fail p s m args meth c none := ⟨B.exec, B.bytes, hml, findClass_of_methodNamed B.named, atoms_spec (ws := wsX6_fail) B.pre, hK, hD, B.returns, B.notSynchronized, hE⟩
  rw [show entryFrame m args 2 = entryFrame m ([.ref (ad 0), .int a1] : List Value).toArray 2 by rw [ha]]
  refine q_entry (A := A) (Nat.le_of_ble_eq_true rfl) hP (lv := [(0, .ref (ad 0)), (1, .int a1)]) rfl ?_
  unfold fX6_fail at h
  refine q_aload_n C dX6_fail_0 rfl 0 rfl ?_
  refine q_get C (Cn := RX6) (T := TX6) (Nf := 60) (ci := 6) (id := 0) (k := 13) (v := .int (σ.1 0 13)) nX6_fail_X6 (by decide) (ceM_0 ad cy _ _ _) rfl (by decide) rfl hX6_fail_188 dX6_fail_1 ?_
  refine q_if_le C (tgt := 8) dX6_fail_4 (by decide) h (fun h => ?_) (fun h => ?_)
  · refine q_aload_n C dX6_fail_8 rfl 0 rfl ?_
    refine q_iload_n C dX6_fail_9 rfl 1 rfl ?_
    refine q_put C (Cn := RX6) (T := TX6) (ty0 := tyX6) (Nf := 60) (ci := 6) (id := 0) (k := 13) (y := 0) tyX6_ok nmX6 nX6_fail_X6 (by decide) (ceM_0 ad cy _ _ _) (ceM_0 ad cy _ _ _) rfl (by decide) rfl (by decide +kernel) (Nat.le_of_ble_eq_true rfl) hX6_fail_188 dX6_fail_10 h (fun σ10 h => ?_)
    refine q_aload_n C dX6_fail_13 rfl 0 rfl ?_
    refine q_aload_n C dX6_fail_14 rfl 0 rfl ?_
    refine q_get C (Cn := RX6) (T := TX6) (Nf := 60) (ci := 6) (id := 0) (k := 6) (v := .ref (ad 4)) nX6_fail_X6 (by decide) (ceM_0 ad cy _ _ _) rfl (by decide) rfl hX6_fail_24 dX6_fail_15 ?_
    refine q_aload_n C dX6_fail_18 rfl 0 rfl ?_
    refine q_get C (Cn := RX6) (T := TX6) (Nf := 60) (ci := 6) (id := 0) (k := 11) (v := .int (σ10.1 0 11)) nX6_fail_X6 (by decide) (ceM_0 ad cy _ _ _) rfl (by decide) rfl hX6_fail_191 dX6_fail_19 ?_
    refine q_iald C (id := 4) (by decide) (ceM_4 ad cy _ _ _) dX6_fail_22 h (fun h => ?_)
    refine q_put C (Cn := RX6) (T := TX6) (ty0 := tyX6) (Nf := 60) (ci := 6) (id := 0) (k := 14) (y := 0) tyX6_ok nmX6 nX6_fail_X6 (by decide) (ceM_0 ad cy _ _ _) (ceM_0 ad cy _ _ _) rfl (by decide) rfl (by decide +kernel) (Nat.le_of_ble_eq_true rfl) hX6_fail_194 dX6_fail_23 h (fun σ23 h => ?_)
    exact q_vret C (r0 := r0) rfl dX6_fail_26 h
  · exact q_vret C (r0 := r0) rfl dX6_fail_7 h
abbrev rmX6_next : Room := { frames := 1, cells := 0, slots := 0, locals := 21 }
theorem hyX6_next : yX6_next.cls = RX6 ∧ yX6_next.cls ≠ "java/lang/invoke/MethodHandle" ∧ yX6_next.cls ≠ "java/lang/invoke/VarHandle" ∧ (parseMethodDescriptor yX6_next.desc).map (fun d => d.parameters.length) = some 0 := by decide +kernel
theorem nX6_next_X6 : ∀ w ∈ u_ws RX6 TX6 60, w ∈ wsX6_next := by decide +kernel
theorem hX6_next_191 : Cond.fieldLink RX6 191 (TX6 11).1 (TX6 11).2.1 (TX6 11).2.2.1 ∈ wsX6_next := by decide +kernel
def fX6_next (σ : St) : Option (Int32 × St) := qlet (fun (y28 : St) => (some ((0 : Int32), y28))) (fun j28 => (if (σ.1 0 11) = (400 : Int32) then (qcall (fX6_fail σ (2 : Int32)) (fun _ σ12 => j28 σ12)) else (qlet (sI σ 0 11 ((σ.1 0 11) + (1 : Int32))) (fun σ25 => j28 σ25))))
set_option maxHeartbeats 4000000 in
set_option maxRecDepth 100000 in
theorem kX6_next (l : Launch) (D : va_G) (ad : Nat → Nat) (cy : Nat → ClassId) (X : va_W) (A : Nat → Prop) (zs : Nat × Nat × Option Nat) (σ : St) (r0 : Int32) (σ0 : St) (h : fX6_next σ = some (r0, σ0)) : Met l yX6_next wsX6_next rmX6_next (qPc ceM 42 ad cy X A D zs [.ref (ad 0)] σ) (qQv ceM 42 ad cy X A D σ0) 0 0 A := by
  refine Met.ofW (cc := cX6_next) (maxL := 1) (ret := none) (by decide) rfl ?_
  intro p e s m args below meth c s₁ B hml hv
  obtain ⟨ha, hP, hK, hE, hD⟩ := hv
  have C : qC ceM 42 ad cy X A D zs cX6_next 1 RX6 wsX6_next p s m args meth c none := ⟨B.exec, B.bytes, hml, findClass_of_methodNamed B.named, atoms_spec (ws := wsX6_next) B.pre, hK, hD, B.returns, B.notSynchronized, hE⟩
  rw [show entryFrame m args 1 = entryFrame m ([.ref (ad 0)] : List Value).toArray 1 by rw [ha]]
  refine q_entry (A := A) (Nat.le_of_ble_eq_true rfl) hP (lv := [(0, .ref (ad 0))]) rfl ?_
  unfold fX6_next at h
  refine q_aload_n C dX6_next_0 rfl 0 rfl ?_
  refine q_get C (Cn := RX6) (T := TX6) (Nf := 60) (ci := 6) (id := 0) (k := 11) (v := .int (σ.1 0 11)) nX6_next_X6 (by decide) (ceM_0 ad cy _ _ _) rfl (by decide) rfl hX6_next_191 dX6_next_1 ?_
  refine q_sipush C (v := 400) dX6_next_4 (by decide) ?_
  refine q_join (G := fun (y28 : St) => qVv ceM 42 ad cy X A D p l e (headSpec wsX6_next rmX6_next).room s m args below meth c 1 r0 σ0 28 [] [] y28) h (fun y28 h => ?_) (fun j28 hj28 h => ?_)
  · exact q_vret C (r0 := r0) rfl dX6_next_28 h
  refine q_icmp_ne C (tgt := 18) dX6_next_7 (by decide) h (fun h => ?_) (fun h => ?_)
  · refine q_aload_n C dX6_next_18 rfl 0 rfl ?_
    refine q_dup C dX6_next_19 rfl ?_
    refine q_get C (Cn := RX6) (T := TX6) (Nf := 60) (ci := 6) (id := 0) (k := 11) (v := .int (σ.1 0 11)) nX6_next_X6 (by decide) (ceM_0 ad cy _ _ _) rfl (by decide) rfl hX6_next_191 dX6_next_20 ?_
    refine q_iconst C (v := 1) dX6_next_23 (by decide) ?_
    refine q_iadd C dX6_next_24 ?_
    refine q_put C (Cn := RX6) (T := TX6) (ty0 := tyX6) (Nf := 60) (ci := 6) (id := 0) (k := 11) (y := 0) tyX6_ok nmX6 nX6_next_X6 (by decide) (ceM_0 ad cy _ _ _) (ceM_0 ad cy _ _ _) rfl (by decide) rfl (by decide +kernel) (Nat.le_of_ble_eq_true rfl) hX6_next_191 dX6_next_25 h (fun σ25 h => ?_)
    exact q_sub [] rfl (hj28 σ25 h)
  · refine q_aload_n C dX6_next_10 rfl 0 rfl ?_
    refine q_iconst C (v := 2) dX6_next_11 (by decide) ?_
    refine q_callVv C (rm := rmX6_fail) (As := [.int (2 : Int32)]) (rest := []) (id := 0) (ci := 6) (fun r9 σ9 h9 => kX6_fail l D ad cy X A zs σ (2 : Int32) r9 σ9 h9) gX6_next_X6_fail rfl rfl rfl hyX6_fail ⟨Nat.le_of_ble_eq_true rfl, Nat.le_of_ble_eq_true rfl⟩ (by decide) (ceM_0 ad cy _ _ _) rfl rfl rfl (Nat.le_of_ble_eq_true rfl) dX6_next_12 ⟨Nat.zero_le _, Nat.zero_le _⟩ h (fun r12 σ12 h => ?_)
    refine q_goto C (tgt := 28) dX6_next_15 (by decide) ?_
    exact q_sub [] rfl (hj28 σ12 h)
abbrev rmX6_must : Room := { frames := 2, cells := 0, slots := 0, locals := 41 }
theorem hyX6_must : yX6_must.cls = RX6 ∧ yX6_must.cls ≠ "java/lang/invoke/MethodHandle" ∧ yX6_must.cls ≠ "java/lang/invoke/VarHandle" ∧ (parseMethodDescriptor yX6_must.desc).map (fun d => d.parameters.length) = some 1 := by decide +kernel
def fX6_must (σ : St) (a1 : Int32) : Option (Int32 × St) := qcall (fX6_is σ a1) (fun r2 σ2 => qlet (fun (y20 : St) => (some ((0 : Int32), y20))) (fun j20 => (if r2 = (0 : Int32) then (qcall (fX6_fail σ2 (1 : Int32)) (fun _ σ17 => j20 σ17)) else (qcall (fX6_next σ2) (fun _ σ9 => j20 σ9)))))
set_option maxHeartbeats 4000000 in
set_option maxRecDepth 100000 in
theorem kX6_must (l : Launch) (D : va_G) (ad : Nat → Nat) (cy : Nat → ClassId) (X : va_W) (A : Nat → Prop) (zs : Nat × Nat × Option Nat) (σ : St) (a1 : Int32) (r0 : Int32) (σ0 : St) (h : fX6_must σ a1 = some (r0, σ0)) : Met l yX6_must wsX6_must rmX6_must (qPc ceM 42 ad cy X A D zs [.ref (ad 0), .int a1] σ) (qQv ceM 42 ad cy X A D σ0) 0 0 A := by
  refine Met.ofW (cc := cX6_must) (maxL := 2) (ret := none) (by decide) rfl ?_
  intro p e s m args below meth c s₁ B hml hv
  obtain ⟨ha, hP, hK, hE, hD⟩ := hv
  have C : qC ceM 42 ad cy X A D zs cX6_must 2 RX6 wsX6_must p s m args meth c none := ⟨B.exec, B.bytes, hml, findClass_of_methodNamed B.named, atoms_spec (ws := wsX6_must) B.pre, hK, hD, B.returns, B.notSynchronized, hE⟩
  rw [show entryFrame m args 2 = entryFrame m ([.ref (ad 0), .int a1] : List Value).toArray 2 by rw [ha]]
  refine q_entry (A := A) (Nat.le_of_ble_eq_true rfl) hP (lv := [(0, .ref (ad 0)), (1, .int a1)]) rfl ?_
  unfold fX6_must at h
  refine q_aload_n C dX6_must_0 rfl 0 rfl ?_
  refine q_iload_n C dX6_must_1 rfl 1 rfl ?_
  refine q_callVi C (rm := rmX6_is) (As := [.int a1]) (rest := []) (id := 0) (ci := 6) (fun r9 σ9 h9 => kX6_is l D ad cy X A zs σ a1 r9 σ9 h9) gX6_must_X6_is rfl rfl rfl hyX6_is ⟨Nat.le_of_ble_eq_true rfl, Nat.le_of_ble_eq_true rfl⟩ (by decide) (ceM_0 ad cy _ _ _) rfl rfl rfl (Nat.le_of_ble_eq_true rfl) dX6_must_2 ⟨Nat.zero_le _, Nat.zero_le _⟩ h (fun r2 σ2 h => ?_)
  refine q_join (G := fun (y20 : St) => qVv ceM 42 ad cy X A D p l e (headSpec wsX6_must rmX6_must).room s m args below meth c 2 r0 σ0 20 [] [] y20) h (fun y20 h => ?_) (fun j20 hj20 h => ?_)
  · exact q_vret C (r0 := r0) rfl dX6_must_20 h
  refine q_if_eq C (tgt := 15) dX6_must_5 (by decide) h (fun h => ?_) (fun h => ?_)
  · refine q_aload_n C dX6_must_15 rfl 0 rfl ?_
    refine q_iconst C (v := 1) dX6_must_16 (by decide) ?_
    refine q_callVv C (rm := rmX6_fail) (As := [.int (1 : Int32)]) (rest := []) (id := 0) (ci := 6) (fun r9 σ9 h9 => kX6_fail l D ad cy X A zs σ2 (1 : Int32) r9 σ9 h9) gX6_must_X6_fail rfl rfl rfl hyX6_fail ⟨Nat.le_of_ble_eq_true rfl, Nat.le_of_ble_eq_true rfl⟩ (by decide) (ceM_0 ad cy _ _ _) rfl rfl rfl (Nat.le_of_ble_eq_true rfl) dX6_must_17 ⟨Nat.zero_le _, Nat.zero_le _⟩ h (fun r17 σ17 h => ?_)
    exact q_sub [] rfl (hj20 σ17 h)
  · refine q_aload_n C dX6_must_8 rfl 0 rfl ?_
    refine q_callVv C (rm := rmX6_next) (As := []) (rest := []) (id := 0) (ci := 6) (fun r9 σ9 h9 => kX6_next l D ad cy X A zs σ2 r9 σ9 h9) gX6_must_X6_next rfl rfl rfl hyX6_next ⟨Nat.le_of_ble_eq_true rfl, Nat.le_of_ble_eq_true rfl⟩ (by decide) (ceM_0 ad cy _ _ _) rfl rfl rfl (Nat.le_of_ble_eq_true rfl) dX6_must_9 ⟨Nat.zero_le _, Nat.zero_le _⟩ h (fun r9 σ9 h => ?_)
    refine q_goto C (tgt := 20) dX6_must_12 (by decide) ?_
    exact q_sub [] rfl (hj20 σ9 h)
abbrev rmX6_isLand : Room := { frames := 0, cells := 0, slots := 0, locals := 0 }
theorem hyX6_isLand : yX6_isLand.cls = RX6 ∧ yX6_isLand.cls ≠ "java/lang/invoke/MethodHandle" ∧ yX6_isLand.cls ≠ "java/lang/invoke/VarHandle" ∧ (parseMethodDescriptor yX6_isLand.desc).map (fun d => d.parameters.length) = some 1 := by decide +kernel
theorem nX6_isLand_X6 : ∀ w ∈ u_ws RX6 TX6 60, w ∈ wsX6_isLand := fun w h => List.mem_cons_of_mem _ (List.mem_append_right _ h)
theorem hX6_isLand_250 : Cond.fieldLink RX6 250 (TX6 37).1 (TX6 37).2.1 (TX6 37).2.2.1 ∈ wsX6_isLand := by decide +kernel
def fX6_isLand (σ : St) (a1 : Int32) : Option (Int32 × St) := qlet (fun (y17 : Int32) => (qzz y17 (some (y17, σ)))) (fun j17 => (qlet (fun (y16 : Unit) => (j17 (0 : Int32))) (fun j16 => (if a1 < (0 : Int32) then (j16 ()) else (if (σ.1 0 37) ≤ a1 then (j16 ()) else (j17 (1 : Int32)))))))
set_option maxHeartbeats 4000000 in
set_option maxRecDepth 100000 in
theorem kX6_isLand (l : Launch) (D : va_G) (ad : Nat → Nat) (cy : Nat → ClassId) (X : va_W) (A : Nat → Prop) (zs : Nat × Nat × Option Nat) (σ : St) (a1 : Int32) (r0 : Int32) (σ0 : St) (h : fX6_isLand σ a1 = some (r0, σ0)) : Met l yX6_isLand wsX6_isLand rmX6_isLand (qPc ceM 42 ad cy X A D zs [.ref (ad 0), .int a1] σ) (qQi ceM 42 ad cy X A D r0 σ0) 0 0 A := by
  refine Met.ofW (cc := cX6_isLand) (maxL := 2) (ret := (some .boolean)) (by decide) rfl ?_
  intro p e s m args below meth c s₁ B hml hv
  obtain ⟨ha, hP, hK, hE, hD⟩ := hv
  have C : qC ceM 42 ad cy X A D zs cX6_isLand 2 RX6 wsX6_isLand p s m args meth c (some .boolean) := ⟨B.exec, B.bytes, hml, findClass_of_methodNamed B.named, atoms_spec (ws := wsX6_isLand) B.pre, hK, hD, B.returns, B.notSynchronized, hE⟩
  rw [show entryFrame m args 2 = entryFrame m ([.ref (ad 0), .int a1] : List Value).toArray 2 by rw [ha]]
  refine q_entry (A := A) (Nat.le_of_ble_eq_true rfl) hP (lv := [(0, .ref (ad 0)), (1, .int a1)]) rfl ?_
  unfold fX6_isLand at h
  refine q_iload_n C dX6_isLand_0 rfl 1 rfl ?_
  refine q_join (G := fun (y17 : Int32) => qVi ceM 42 ad cy X A D p l e (headSpec wsX6_isLand rmX6_isLand).room s m args below meth c 2 r0 σ0 17 [] [.int y17] σ) h (fun y17 h => ?_) (fun j17 hj17 h => ?_)
  · exact q_zret C rfl dX6_isLand_17 h
  refine q_join (G := fun (y16 : Unit) => qVi ceM 42 ad cy X A D p l e (headSpec wsX6_isLand rmX6_isLand).room s m args below meth c 2 r0 σ0 16 [] [] σ) h (fun y16 h => ?_) (fun j16 hj16 h => ?_)
  · refine q_iconst C (v := 0) dX6_isLand_16 (by decide) ?_
    exact q_sub [] rfl (hj17 (0 : Int32) h)
  refine q_if_lt C (tgt := 16) dX6_isLand_1 (by decide) h (fun h => ?_) (fun h => ?_)
  · exact q_sub [] rfl (hj16 () h)
  · refine q_iload_n C dX6_isLand_4 rfl 1 rfl ?_
    refine q_aload_n C dX6_isLand_5 rfl 0 rfl ?_
    refine q_get C (Cn := RX6) (T := TX6) (Nf := 60) (ci := 6) (id := 0) (k := 37) (v := .int (σ.1 0 37)) nX6_isLand_X6 (by decide) (ceM_0 ad cy _ _ _) rfl (by decide) rfl hX6_isLand_250 dX6_isLand_6 ?_
    refine q_icmp_ge C (tgt := 16) dX6_isLand_9 (by decide) h (fun h => ?_) (fun h => ?_)
    · exact q_sub [] rfl (hj16 () h)
    · refine q_iconst C (v := 1) dX6_isLand_12 (by decide) ?_
      refine q_goto C (tgt := 17) dX6_isLand_13 (by decide) ?_
      exact q_sub [] rfl (hj17 (1 : Int32) h)
abbrev rmX6_emit : Room := { frames := 0, cells := 0, slots := 0, locals := 0 }
theorem hyX6_emit : yX6_emit.cls = RX6 ∧ yX6_emit.cls ≠ "java/lang/invoke/MethodHandle" ∧ yX6_emit.cls ≠ "java/lang/invoke/VarHandle" ∧ (parseMethodDescriptor yX6_emit.desc).map (fun d => d.parameters.length) = some 2 := by decide +kernel
theorem nX6_emit_X6 : ∀ w ∈ u_ws RX6 TX6 60, w ∈ wsX6_emit := by decide +kernel
theorem hX6_emit_74 : Cond.fieldLink RX6 74 (TX6 31).1 (TX6 31).2.1 (TX6 31).2.2.1 ∈ wsX6_emit := by decide +kernel
theorem hX6_emit_224 : Cond.fieldLink RX6 224 (TX6 30).1 (TX6 30).2.1 (TX6 30).2.2.1 ∈ wsX6_emit := by decide +kernel
theorem hX6_emit_77 : Cond.fieldLink RX6 77 (TX6 32).1 (TX6 32).2.1 (TX6 32).2.2.1 ∈ wsX6_emit := by decide +kernel
def fX6_emit (σ : St) (a1 : Int32) (a2 : Int32) : Option (Int32 × St) := qix (σ.1 0 30) 6000 (qlet (sI σ 19 (σ.1 0 30).toNatClampNeg a1) (fun σ9 => qix (σ9.1 0 30) 6000 (qlet (sI σ9 20 (σ9.1 0 30).toNatClampNeg a2) (fun σ19 => qlet (sI σ19 0 30 ((σ19.1 0 30) + (1 : Int32))) (fun σ27 => some ((0 : Int32), σ27))))))
set_option maxHeartbeats 4000000 in
set_option maxRecDepth 100000 in
theorem kX6_emit (l : Launch) (D : va_G) (ad : Nat → Nat) (cy : Nat → ClassId) (X : va_W) (A : Nat → Prop) (zs : Nat × Nat × Option Nat) (σ : St) (a1 : Int32) (a2 : Int32) (r0 : Int32) (σ0 : St) (h : fX6_emit σ a1 a2 = some (r0, σ0)) : Met l yX6_emit wsX6_emit rmX6_emit (qPc ceM 42 ad cy X A D zs [.ref (ad 0), .int a1, .int a2] σ) (qQv ceM 42 ad cy X A D σ0) 0 0 A := by
  refine Met.ofW (cc := cX6_emit) (maxL := 3) (ret := none) (by decide) rfl ?_
  intro p e s m args below meth c s₁ B hml hv
  obtain ⟨ha, hP, hK, hE, hD⟩ := hv
  have C : qC ceM 42 ad cy X A D zs cX6_emit 3 RX6 wsX6_emit p s m args meth c none := ⟨B.exec, B.bytes, hml, findClass_of_methodNamed B.named, atoms_spec (ws := wsX6_emit) B.pre, hK, hD, B.returns, B.notSynchronized, hE⟩
  rw [show entryFrame m args 3 = entryFrame m ([.ref (ad 0), .int a1, .int a2] : List Value).toArray 3 by rw [ha]]
  refine q_entry (A := A) (Nat.le_of_ble_eq_true rfl) hP (lv := [(0, .ref (ad 0)), (1, .int a1), (2, .int a2)]) rfl ?_
  unfold fX6_emit at h
  refine q_aload_n C dX6_emit_0 rfl 0 rfl ?_
  refine q_get C (Cn := RX6) (T := TX6) (Nf := 60) (ci := 6) (id := 0) (k := 31) (v := .ref (ad 19)) nX6_emit_X6 (by decide) (ceM_0 ad cy _ _ _) rfl (by decide) rfl hX6_emit_74 dX6_emit_1 ?_
  refine q_aload_n C dX6_emit_4 rfl 0 rfl ?_
  refine q_get C (Cn := RX6) (T := TX6) (Nf := 60) (ci := 6) (id := 0) (k := 30) (v := .int (σ.1 0 30)) nX6_emit_X6 (by decide) (ceM_0 ad cy _ _ _) rfl (by decide) rfl hX6_emit_224 dX6_emit_5 ?_
  refine q_iload_n C dX6_emit_8 rfl 1 rfl ?_
  refine q_iast C (id := 19) (by decide) (fun f g => ceM_19 ad cy _ f g) dX6_emit_9 h (fun σ9 h => ?_)
  refine q_aload_n C dX6_emit_10 rfl 0 rfl ?_
  refine q_get C (Cn := RX6) (T := TX6) (Nf := 60) (ci := 6) (id := 0) (k := 32) (v := .ref (ad 20)) nX6_emit_X6 (by decide) (ceM_0 ad cy _ _ _) rfl (by decide) rfl hX6_emit_77 dX6_emit_11 ?_
  refine q_aload_n C dX6_emit_14 rfl 0 rfl ?_
  refine q_get C (Cn := RX6) (T := TX6) (Nf := 60) (ci := 6) (id := 0) (k := 30) (v := .int (σ9.1 0 30)) nX6_emit_X6 (by decide) (ceM_0 ad cy _ _ _) rfl (by decide) rfl hX6_emit_224 dX6_emit_15 ?_
  refine q_iload_n C dX6_emit_18 rfl 2 rfl ?_
  refine q_iast C (id := 20) (by decide) (fun f g => ceM_20 ad cy _ f g) dX6_emit_19 h (fun σ19 h => ?_)
  refine q_aload_n C dX6_emit_20 rfl 0 rfl ?_
  refine q_dup C dX6_emit_21 rfl ?_
  refine q_get C (Cn := RX6) (T := TX6) (Nf := 60) (ci := 6) (id := 0) (k := 30) (v := .int (σ19.1 0 30)) nX6_emit_X6 (by decide) (ceM_0 ad cy _ _ _) rfl (by decide) rfl hX6_emit_224 dX6_emit_22 ?_
  refine q_iconst C (v := 1) dX6_emit_25 (by decide) ?_
  refine q_iadd C dX6_emit_26 ?_
  refine q_put C (Cn := RX6) (T := TX6) (ty0 := tyX6) (Nf := 60) (ci := 6) (id := 0) (k := 30) (y := 0) tyX6_ok nmX6 nX6_emit_X6 (by decide) (ceM_0 ad cy _ _ _) (ceM_0 ad cy _ _ _) rfl (by decide) rfl (by decide +kernel) (Nat.le_of_ble_eq_true rfl) hX6_emit_224 dX6_emit_27 h (fun σ27 h => ?_)
  exact q_vret C (r0 := r0) rfl dX6_emit_30 h
abbrev rmX6_comesOut : Room := { frames := 1, cells := 0, slots := 0, locals := 22 }
theorem hyX6_comesOut : yX6_comesOut.cls = RX6 ∧ yX6_comesOut.cls ≠ "java/lang/invoke/MethodHandle" ∧ yX6_comesOut.cls ≠ "java/lang/invoke/VarHandle" ∧ (parseMethodDescriptor yX6_comesOut.desc).map (fun d => d.parameters.length) = some 1 := by decide +kernel
theorem nX6_comesOut_X6 : ∀ w ∈ u_ws RX6 TX6 60, w ∈ wsX6_comesOut := by decide +kernel
theorem hX6_comesOut_240 : Cond.fieldLink RX6 240 (TX6 34).1 (TX6 34).2.1 (TX6 34).2.2.1 ∈ wsX6_comesOut := by decide +kernel
theorem hX6_comesOut_80 : Cond.fieldLink RX6 80 (TX6 33).1 (TX6 33).2.1 (TX6 33).2.2.1 ∈ wsX6_comesOut := by decide +kernel
def fX6_comesOut_L (a1 : Int32) : Nat → St → Option (Int32 × St)
  | 0, _ => none
  | n + 1, σ => qlet (fun (y92 : Unit) => (some ((0 : Int32), σ))) (fun j92 => (if (σ.1 0 34) ≤ (0 : Int32) then (j92 ()) else (qix ((σ.1 0 34) - (1 : Int32)) 48 (if (σ.1 21 ((σ.1 0 34) - (1 : Int32)).toNatClampNeg) = (6 : Int32) then (j92 ()) else (qlet (fun (y43 : Unit) => (qlet (sI σ 0 34 ((σ.1 0 34) - (1 : Int32))) (fun σ50 => qix (σ50.1 0 34) 48 (qlet (σ50.1 21 (σ50.1 0 34).toNatClampNeg) (fun x62 => qlet (fun (y85 : Int32) => (qcall (fX6_emit σ50 y85 (0 : Int32)) (fun _ σ86 => fX6_comesOut_L a1 n σ86))) (fun j85 => (if x62 = (8 : Int32) then (j85 (2 : Int32)) else (if x62 = (9 : Int32) then (j85 (3 : Int32)) else (j85 (4 : Int32)))))))))) (fun j43 => (if a1 = (0 : Int32) then (j43 ()) else (qix ((σ.1 0 34) - (1 : Int32)) 48 (if (σ.1 21 ((σ.1 0 34) - (1 : Int32)).toNatClampNeg) = (10 : Int32) then (j43 ()) else (j92 ()))))))))))
def fX6_comesOut (σ : St) (a1 : Int32) : Option (Int32 × St) := fX6_comesOut_L a1 100000 σ
set_option maxHeartbeats 4000000 in
set_option maxRecDepth 100000 in
theorem kX6_comesOut_L {ad : Nat → Nat} {cy : Nat → ClassId} {X : va_W} {A : Nat → Prop} {D : va_G} {zs : Nat × Nat × Option Nat} {p : Program} {l : Launch} {e : Env} {s : State} {m : MethodId} {args : Array Value} {below : List Frame} {meth : Method} {c : Code} {a1 : Int32} (C : qC ceM 42 ad cy X A D zs cX6_comesOut 3 RX6 wsX6_comesOut p s m args meth c none) (r0 : Int32) (σ0 : St) (n : Nat) : (∀ (σ : St), fX6_comesOut_L a1 n σ = some (r0, σ0) → qVv ceM 42 ad cy X A D p l e (headSpec wsX6_comesOut rmX6_comesOut).room s m args below meth c 3 r0 σ0 0 [(0, .ref (ad 0)), (1, .int a1)] [] σ) := by
  induction n with
  | zero =>
    intro  σ h; cases h
  | succ n ih =>
    intro  σ h
    rw [fX6_comesOut_L] at h
    refine q_aload_n C dX6_comesOut_0 rfl 0 rfl ?_
    refine q_get C (Cn := RX6) (T := TX6) (Nf := 60) (ci := 6) (id := 0) (k := 34) (v := .int (σ.1 0 34)) nX6_comesOut_X6 (by decide) (ceM_0 ad cy _ _ _) rfl (by decide) rfl hX6_comesOut_240 dX6_comesOut_1 ?_
    refine q_join (G := fun (y92 : Unit) => qVv ceM 42 ad cy X A D p l e (headSpec wsX6_comesOut rmX6_comesOut).room s m args below meth c 3 r0 σ0 92 [] [] σ) h (fun y92 h => ?_) (fun j92 hj92 h => ?_)
    · exact q_vret C (r0 := r0) rfl dX6_comesOut_92 h
    refine q_if_le C (tgt := 92) dX6_comesOut_4 (by decide) h (fun h => ?_) (fun h => ?_)
    · exact q_sub [] rfl (hj92 () h)
    · refine q_aload_n C dX6_comesOut_7 rfl 0 rfl ?_
      refine q_get C (Cn := RX6) (T := TX6) (Nf := 60) (ci := 6) (id := 0) (k := 33) (v := .ref (ad 21)) nX6_comesOut_X6 (by decide) (ceM_0 ad cy _ _ _) rfl (by decide) rfl hX6_comesOut_80 dX6_comesOut_8 ?_
      refine q_aload_n C dX6_comesOut_11 rfl 0 rfl ?_
      refine q_get C (Cn := RX6) (T := TX6) (Nf := 60) (ci := 6) (id := 0) (k := 34) (v := .int (σ.1 0 34)) nX6_comesOut_X6 (by decide) (ceM_0 ad cy _ _ _) rfl (by decide) rfl hX6_comesOut_240 dX6_comesOut_12 ?_
      refine q_iconst C (v := 1) dX6_comesOut_15 (by decide) ?_
      refine q_isub C dX6_comesOut_16 ?_
      refine q_iald C (id := 21) (by decide) (ceM_21 ad cy _ _ _) dX6_comesOut_17 h (fun h => ?_)
      refine q_bipush C (v := 6) dX6_comesOut_18 (by decide) ?_
      refine q_icmp_eq C (tgt := 92) dX6_comesOut_20 (by decide) h (fun h => ?_) (fun h => ?_)
      · exact q_sub [] rfl (hj92 () h)
      · refine q_iload_n C dX6_comesOut_23 rfl 1 rfl ?_
        refine q_join (G := fun (y43 : Unit) => qVv ceM 42 ad cy X A D p l e (headSpec wsX6_comesOut rmX6_comesOut).room s m args below meth c 3 r0 σ0 43 [(0, .ref (ad 0)), (1, .int a1)] [] σ) h (fun y43 h => ?_) (fun j43 hj43 h => ?_)
        · refine q_aload_n C dX6_comesOut_43 rfl 0 rfl ?_
          refine q_dup C dX6_comesOut_44 rfl ?_
          refine q_get C (Cn := RX6) (T := TX6) (Nf := 60) (ci := 6) (id := 0) (k := 34) (v := .int (σ.1 0 34)) nX6_comesOut_X6 (by decide) (ceM_0 ad cy _ _ _) rfl (by decide) rfl hX6_comesOut_240 dX6_comesOut_45 ?_
          refine q_iconst C (v := 1) dX6_comesOut_48 (by decide) ?_
          refine q_isub C dX6_comesOut_49 ?_
          refine q_put C (Cn := RX6) (T := TX6) (ty0 := tyX6) (Nf := 60) (ci := 6) (id := 0) (k := 34) (y := 0) tyX6_ok nmX6 nX6_comesOut_X6 (by decide) (ceM_0 ad cy _ _ _) (ceM_0 ad cy _ _ _) rfl (by decide) rfl (by decide +kernel) (Nat.le_of_ble_eq_true rfl) hX6_comesOut_240 dX6_comesOut_50 h (fun σ50 h => ?_)
          refine q_aload_n C dX6_comesOut_53 rfl 0 rfl ?_
          refine q_get C (Cn := RX6) (T := TX6) (Nf := 60) (ci := 6) (id := 0) (k := 33) (v := .ref (ad 21)) nX6_comesOut_X6 (by decide) (ceM_0 ad cy _ _ _) rfl (by decide) rfl hX6_comesOut_80 dX6_comesOut_54 ?_
          refine q_aload_n C dX6_comesOut_57 rfl 0 rfl ?_
          refine q_get C (Cn := RX6) (T := TX6) (Nf := 60) (ci := 6) (id := 0) (k := 34) (v := .int (σ50.1 0 34)) nX6_comesOut_X6 (by decide) (ceM_0 ad cy _ _ _) rfl (by decide) rfl hX6_comesOut_240 dX6_comesOut_58 ?_
          refine q_iald C (id := 21) (by decide) (ceM_21 ad cy _ _ _) dX6_comesOut_61 h (fun h => ?_)
          refine q_istore_nL C dX6_comesOut_62 rfl (by decide) h (lw := fun x62 => [(0, .ref (ad 0)), (1, .int a1), (2, .int x62)]) (fun _ => rfl) (fun x62 h => ?_)
          refine q_aload_n C dX6_comesOut_63 rfl 0 rfl ?_
          refine q_iload_n C dX6_comesOut_64 rfl 2 rfl ?_
          refine q_bipush C (v := 8) dX6_comesOut_65 (by decide) ?_
          refine q_join (G := fun (y85 : Int32) => qVv ceM 42 ad cy X A D p l e (headSpec wsX6_comesOut rmX6_comesOut).room s m args below meth c 3 r0 σ0 85 [(0, .ref (ad 0)), (1, .int a1)] [.int y85, .ref (ad 0)] σ50) h (fun y85 h => ?_) (fun j85 hj85 h => ?_)
          · refine q_iconst C (v := 0) dX6_comesOut_85 (by decide) ?_
            refine q_callVv C (rm := rmX6_emit) (As := [.int y85, .int (0 : Int32)]) (rest := []) (id := 0) (ci := 6) (fun r9 σ9 h9 => kX6_emit l D ad cy X A zs σ50 y85 (0 : Int32) r9 σ9 h9) gX6_comesOut_X6_emit rfl rfl rfl hyX6_emit ⟨Nat.le_of_ble_eq_true rfl, Nat.le_of_ble_eq_true rfl⟩ (by decide) (ceM_0 ad cy _ _ _) rfl rfl rfl (Nat.le_of_ble_eq_true rfl) dX6_comesOut_86 ⟨Nat.zero_le _, Nat.zero_le _⟩ h (fun r86 σ86 h => ?_)
            refine q_goto C (tgt := 0) dX6_comesOut_89 (by decide) ?_
            exact q_sub [0, 1] rfl (ih σ86 h)
          refine q_icmp_ne C (tgt := 74) dX6_comesOut_67 (by decide) h (fun h => ?_) (fun h => ?_)
          · refine q_iload_n C dX6_comesOut_74 rfl 2 rfl ?_
            refine q_bipush C (v := 9) dX6_comesOut_75 (by decide) ?_
            refine q_icmp_ne C (tgt := 84) dX6_comesOut_77 (by decide) h (fun h => ?_) (fun h => ?_)
            · refine q_iconst C (v := 4) dX6_comesOut_84 (by decide) ?_
              exact q_sub [0, 1] rfl (hj85 (4 : Int32) h)
            · refine q_iconst C (v := 3) dX6_comesOut_80 (by decide) ?_
              refine q_goto C (tgt := 85) dX6_comesOut_81 (by decide) ?_
              exact q_sub [0, 1] rfl (hj85 (3 : Int32) h)
          · refine q_iconst C (v := 2) dX6_comesOut_70 (by decide) ?_
            refine q_goto C (tgt := 85) dX6_comesOut_71 (by decide) ?_
            exact q_sub [0, 1] rfl (hj85 (2 : Int32) h)
        refine q_if_eq C (tgt := 43) dX6_comesOut_24 (by decide) h (fun h => ?_) (fun h => ?_)
        · exact q_sub [0, 1] rfl (hj43 () h)
        · refine q_aload_n C dX6_comesOut_27 rfl 0 rfl ?_
          refine q_get C (Cn := RX6) (T := TX6) (Nf := 60) (ci := 6) (id := 0) (k := 33) (v := .ref (ad 21)) nX6_comesOut_X6 (by decide) (ceM_0 ad cy _ _ _) rfl (by decide) rfl hX6_comesOut_80 dX6_comesOut_28 ?_
          refine q_aload_n C dX6_comesOut_31 rfl 0 rfl ?_
          refine q_get C (Cn := RX6) (T := TX6) (Nf := 60) (ci := 6) (id := 0) (k := 34) (v := .int (σ.1 0 34)) nX6_comesOut_X6 (by decide) (ceM_0 ad cy _ _ _) rfl (by decide) rfl hX6_comesOut_240 dX6_comesOut_32 ?_
          refine q_iconst C (v := 1) dX6_comesOut_35 (by decide) ?_
          refine q_isub C dX6_comesOut_36 ?_
          refine q_iald C (id := 21) (by decide) (ceM_21 ad cy _ _ _) dX6_comesOut_37 h (fun h => ?_)
          refine q_bipush C (v := 10) dX6_comesOut_38 (by decide) ?_
          refine q_icmp_ne C (tgt := 92) dX6_comesOut_40 (by decide) h (fun h => ?_) (fun h => ?_)
          · exact q_sub [] rfl (hj92 () h)
          · exact q_sub [0, 1] rfl (hj43 () h)
set_option maxHeartbeats 4000000 in
set_option maxRecDepth 100000 in
theorem kX6_comesOut (l : Launch) (D : va_G) (ad : Nat → Nat) (cy : Nat → ClassId) (X : va_W) (A : Nat → Prop) (zs : Nat × Nat × Option Nat) (σ : St) (a1 : Int32) (r0 : Int32) (σ0 : St) (h : fX6_comesOut σ a1 = some (r0, σ0)) : Met l yX6_comesOut wsX6_comesOut rmX6_comesOut (qPc ceM 42 ad cy X A D zs [.ref (ad 0), .int a1] σ) (qQv ceM 42 ad cy X A D σ0) 0 0 A := by
  refine Met.ofW (cc := cX6_comesOut) (maxL := 3) (ret := none) (by decide) rfl ?_
  intro p e s m args below meth c s₁ B hml hv
  obtain ⟨ha, hP, hK, hE, hD⟩ := hv
  have C : qC ceM 42 ad cy X A D zs cX6_comesOut 3 RX6 wsX6_comesOut p s m args meth c none := ⟨B.exec, B.bytes, hml, findClass_of_methodNamed B.named, atoms_spec (ws := wsX6_comesOut) B.pre, hK, hD, B.returns, B.notSynchronized, hE⟩
  rw [show entryFrame m args 3 = entryFrame m ([.ref (ad 0), .int a1] : List Value).toArray 3 by rw [ha]]
  refine q_entry (A := A) (Nat.le_of_ble_eq_true rfl) hP (lv := [(0, .ref (ad 0)), (1, .int a1)]) rfl ?_
  unfold fX6_comesOut at h
  exact q_sub [0, 1] rfl ((kX6_comesOut_L C r0 σ0 100000) σ h)
abbrev rmX6_expression : Room := { frames := 2, cells := 0, slots := 0, locals := 44 }
theorem hyX6_expression : yX6_expression.cls = RX6 ∧ yX6_expression.cls ≠ "java/lang/invoke/MethodHandle" ∧ yX6_expression.cls ≠ "java/lang/invoke/VarHandle" ∧ (parseMethodDescriptor yX6_expression.desc).map (fun d => d.parameters.length) = some 0 := by decide +kernel
theorem nX6_expression_X6 : ∀ w ∈ u_ws RX6 TX6 60, w ∈ wsX6_expression := fun w h => List.mem_cons_of_mem _ (List.mem_append_right _ h)
theorem hX6_expression_240 : Cond.fieldLink RX6 240 (TX6 34).1 (TX6 34).2.1 (TX6 34).2.2.1 ∈ wsX6_expression := by decide +kernel
theorem hX6_expression_218 : Cond.fieldLink RX6 218 (TX6 12).1 (TX6 12).2.1 (TX6 12).2.2.1 ∈ wsX6_expression := by decide +kernel
theorem hX6_expression_188 : Cond.fieldLink RX6 188 (TX6 13).1 (TX6 13).2.1 (TX6 13).2.2.1 ∈ wsX6_expression := by decide +kernel
theorem hX6_expression_80 : Cond.fieldLink RX6 80 (TX6 33).1 (TX6 33).2.1 (TX6 33).2.2.1 ∈ wsX6_expression := by decide +kernel
theorem hX6_expression_20 : Cond.fieldLink RX6 20 (TX6 5).1 (TX6 5).2.1 (TX6 5).2.2.1 ∈ wsX6_expression := by decide +kernel
theorem hX6_expression_191 : Cond.fieldLink RX6 191 (TX6 11).1 (TX6 11).2.1 (TX6 11).2.2.1 ∈ wsX6_expression := by decide +kernel
theorem hX6_expression_27 : Cond.fieldLink RX6 27 (TX6 7).1 (TX6 7).2.1 (TX6 7).2.2.1 ∈ wsX6_expression := by decide +kernel
def fX6_expression_L : Nat → Nat → Int32 → Int32 → St → Option (Int32 × St)
  | 0, _, _, _, _ => none
  | n + 1, lab, v1, v2, σ => if lab = 0 then (qlet (fun (y360 : Unit) => (some ((0 : Int32), σ))) (fun j360 => (if v2 = (0 : Int32) then (j360 ()) else (if (σ.1 0 13) = (0 : Int32) then (qcall (fX6_is σ (6 : Int32)) (fun r26 σ26 => if r26 = (0 : Int32) then (qlet (fun (y132 : Int32) => (qcall (fX6_is σ26 (2 : Int32)) (fun r135 σ135 => qlet (fun (y150 : St) => (if (y150.1 0 13) ≤ (0 : Int32) then (qlet (fun (y196 : St) => (qcall (fX6_next y196) (fun _ σ197 => fX6_expression_L n 1 v1 0 σ197))) (fun j196 => (if y132 = (0 : Int32) then (qix (y150.1 0 11) 403 (qcall (fX6_emit y150 (0 : Int32) (y150.1 5 (y150.1 0 11).toNatClampNeg)) (fun _ σ193 => j196 σ193))) else (qix (y150.1 0 11) 403 (qcall (fX6_emit y150 (1 : Int32) ((y150.1 3 (y150.1 0 11).toNatClampNeg) - (26 : Int32))) (fun _ σ176 => j196 σ176)))))) else (some ((0 : Int32), y150)))) (fun j150 => (if r135 = (0 : Int32) then (if y132 = (0 : Int32) then (qcall (fX6_fail σ135 (1 : Int32)) (fun _ σ147 => j150 σ147)) else (j150 σ135)) else (j150 σ135)))))) (fun j132 => (qlet (fun (y131 : Unit) => (j132 (0 : Int32))) (fun j131 => (if (σ26.1 0 13) = (0 : Int32) then (qix (σ26.1 0 11) 403 (if (σ26.1 3 (σ26.1 0 11).toNatClampNeg) < (26 : Int32) then (j131 ()) else (qix (σ26.1 0 11) 403 (if (33 : Int32) < (σ26.1 3 (σ26.1 0 11).toNatClampNeg) then (j131 ()) else (j132 (1 : Int32)))))) else (j131 ())))))) else (qlet (fun (y46 : St) => (if (y46.1 0 13) ≤ (0 : Int32) then (qlet (sI y46 0 12 ((y46.1 0 12) + (1 : Int32))) (fun σ61 => qcall (fX6_next σ61) (fun _ σ65 => qix (σ65.1 0 34) 48 (qlet (sI σ65 21 (σ65.1 0 34).toNatClampNeg (6 : Int32)) (fun σ78 => qlet (sI σ78 0 34 ((σ78.1 0 34) + (1 : Int32))) (fun σ86 => fX6_expression_L n 0 v1 v2 σ86)))))) else (some ((0 : Int32), y46)))) (fun j46 => (if (σ26.1 0 12) = (6 : Int32) then (qcall (fX6_fail σ26 (2 : Int32)) (fun _ σ43 => j46 σ43)) else (j46 σ26)))))) else (j360 ()))))) else (qcall (fX6_is σ (7 : Int32)) (fun r203 σ203 => qlet (fun (y249 : Unit) => (qcall (fX6_is σ203 (8 : Int32)) (fun r252 σ252 => qlet (fun (y281 : Int32 × St) => (qlet y281.1 (fun x281 => if x281 = (0 : Int32) then (qlet (fun (y299 : St) => (qcall (fX6_comesOut y299 (0 : Int32)) (fun _ σ301 => some ((0 : Int32), σ301)))) (fun j299 => (if (y281.2.1 0 12) ≤ v1 then (j299 y281.2) else (qcall (fX6_fail y281.2 (1 : Int32)) (fun _ σ296 => j299 σ296))))) else (qix (y281.2.1 0 11) 403 (qlet (y281.2.1 3 (y281.2.1 0 11).toNatClampNeg) (fun x314 => qlet (fun (y329 : Int32) => (qcall (fX6_comesOut y281.2 y329) (fun _ σ329 => qix (σ329.1 0 34) 48 (qlet (sI σ329 21 (σ329.1 0 34).toNatClampNeg x314) (fun σ342 => qlet (sI σ342 0 34 ((σ342.1 0 34) + (1 : Int32))) (fun σ350 => qcall (fX6_next σ350) (fun _ σ354 => fX6_expression_L n 0 v1 x281 σ354))))))) (fun j329 => (if x314 = (10 : Int32) then (j329 (1 : Int32)) else (j329 (0 : Int32)))))))))) (fun j281 => (qlet (fun (y276 : St) => (j281 ((1 : Int32), y276))) (fun j276 => (if r252 = (0 : Int32) then (qcall (fX6_is σ252 (9 : Int32)) (fun r261 σ261 => if r261 = (0 : Int32) then (qcall (fX6_is σ261 (10 : Int32)) (fun r270 σ270 => if r270 = (0 : Int32) then (j281 ((0 : Int32), σ270)) else (j276 σ270))) else (j276 σ261))) else (j276 σ252)))))))) (fun j249 => (if r203 = (0 : Int32) then (j249 ()) else (if (σ203.1 0 12) ≤ v1 then (j249 ()) else (qcall (fX6_comesOut σ203 (0 : Int32)) (fun _ σ219 => qlet (sI σ219 0 34 ((σ219.1 0 34) - (1 : Int32))) (fun σ229 => qlet (sI σ229 0 12 ((σ229.1 0 12) - (1 : Int32))) (fun σ239 => qcall (fX6_next σ239) (fun _ σ243 => fX6_expression_L n 1 v1 0 σ243))))))))))
def fX6_expression (σ : St) : Option (Int32 × St) := qlet (sI σ 0 34 (0 : Int32)) (fun σ2 => qlet (σ2.1 0 12) (fun x9 => fX6_expression_L 100000 0 x9 (1 : Int32) σ2))
set_option maxHeartbeats 4000000 in
set_option maxRecDepth 100000 in
theorem kX6_expression_L {ad : Nat → Nat} {cy : Nat → ClassId} {X : va_W} {A : Nat → Prop} {D : va_G} {zs : Nat × Nat × Option Nat} {p : Program} {l : Launch} {e : Env} {s : State} {m : MethodId} {args : Array Value} {below : List Frame} {meth : Method} {c : Code} (C : qC ceM 42 ad cy X A D zs cX6_expression 5 RX6 wsX6_expression p s m args meth c none) (r0 : Int32) (σ0 : St) (n : Nat) : (∀ (v1 : Int32) (v2 : Int32) (σ : St), fX6_expression_L n 0 v1 v2 σ = some (r0, σ0) → qVv ceM 42 ad cy X A D p l e (headSpec wsX6_expression rmX6_expression).room s m args below meth c 5 r0 σ0 12 [(0, .ref (ad 0)), (1, .int v1), (2, .int v2)] [] σ) ∧ (∀ (v1 : Int32) (σ : St), fX6_expression_L n 1 v1 0 σ = some (r0, σ0) → qVv ceM 42 ad cy X A D p l e (headSpec wsX6_expression rmX6_expression).room s m args below meth c 5 r0 σ0 200 [(0, .ref (ad 0)), (1, .int v1)] [] σ) := by
  induction n with
  | zero =>
    refine ⟨?_, ?_⟩
    · intro v1 v2 σ h; cases h
    · intro v1 σ h; cases h
  | succ n ih =>
    refine ⟨?_, ?_⟩
    · intro v1 v2 σ h
      rw [fX6_expression_L] at h
      rw [if_pos rfl] at h
      refine q_iload_n C dX6_expression_12 rfl 2 rfl ?_
      refine q_join (G := fun (y360 : Unit) => qVv ceM 42 ad cy X A D p l e (headSpec wsX6_expression rmX6_expression).room s m args below meth c 5 r0 σ0 360 [] [] σ) h (fun y360 h => ?_) (fun j360 hj360 h => ?_)
      · exact q_vret C (r0 := r0) rfl dX6_expression_360 h
      refine q_if_eq C (tgt := 360) dX6_expression_13 (by decide) h (fun h => ?_) (fun h => ?_)
      · exact q_sub [] rfl (hj360 () h)
      · refine q_aload_n C dX6_expression_16 rfl 0 rfl ?_
        refine q_get C (Cn := RX6) (T := TX6) (Nf := 60) (ci := 6) (id := 0) (k := 13) (v := .int (σ.1 0 13)) nX6_expression_X6 (by decide) (ceM_0 ad cy _ _ _) rfl (by decide) rfl hX6_expression_188 dX6_expression_17 ?_
        refine q_if_ne C (tgt := 360) dX6_expression_20 (by decide) h (fun h => ?_) (fun h => ?_)
        · exact q_sub [] rfl (hj360 () h)
        · refine q_aload_n C dX6_expression_23 rfl 0 rfl ?_
          refine q_bipush C (v := 6) dX6_expression_24 (by decide) ?_
          refine q_callVi C (rm := rmX6_is) (As := [.int (6 : Int32)]) (rest := []) (id := 0) (ci := 6) (fun r9 σ9 h9 => kX6_is l D ad cy X A zs σ (6 : Int32) r9 σ9 h9) gX6_expression_X6_is rfl rfl rfl hyX6_is ⟨Nat.le_of_ble_eq_true rfl, Nat.le_of_ble_eq_true rfl⟩ (by decide) (ceM_0 ad cy _ _ _) rfl rfl rfl (Nat.le_of_ble_eq_true rfl) dX6_expression_26 ⟨Nat.zero_le _, Nat.zero_le _⟩ h (fun r26 σ26 h => ?_)
          refine q_if_eq C (tgt := 92) dX6_expression_29 (by decide) h (fun h => ?_) (fun h => ?_)
          · refine q_aload_n C dX6_expression_92 rfl 0 rfl ?_
            refine q_get C (Cn := RX6) (T := TX6) (Nf := 60) (ci := 6) (id := 0) (k := 13) (v := .int (σ26.1 0 13)) nX6_expression_X6 (by decide) (ceM_0 ad cy _ _ _) rfl (by decide) rfl hX6_expression_188 dX6_expression_93 ?_
            refine q_join (G := fun (y132 : Int32) => qVv ceM 42 ad cy X A D p l e (headSpec wsX6_expression rmX6_expression).room s m args below meth c 5 r0 σ0 132 [(0, .ref (ad 0)), (1, .int v1)] [.int y132] σ26) h (fun y132 h => ?_) (fun j132 hj132 h => ?_)
            · refine q_istore_n C dX6_expression_132 rfl (by decide) (lv' := [(0, .ref (ad 0)), (1, .int v1), (3, .int y132)]) rfl ?_
              refine q_aload_n C dX6_expression_133 rfl 0 rfl ?_
              refine q_iconst C (v := 2) dX6_expression_134 (by decide) ?_
              refine q_callVi C (rm := rmX6_is) (As := [.int (2 : Int32)]) (rest := []) (id := 0) (ci := 6) (fun r9 σ9 h9 => kX6_is l D ad cy X A zs σ26 (2 : Int32) r9 σ9 h9) gX6_expression_X6_is rfl rfl rfl hyX6_is ⟨Nat.le_of_ble_eq_true rfl, Nat.le_of_ble_eq_true rfl⟩ (by decide) (ceM_0 ad cy _ _ _) rfl rfl rfl (Nat.le_of_ble_eq_true rfl) dX6_expression_135 ⟨Nat.zero_le _, Nat.zero_le _⟩ h (fun r135 σ135 h => ?_)
              refine q_join (G := fun (y150 : St) => qVv ceM 42 ad cy X A D p l e (headSpec wsX6_expression rmX6_expression).room s m args below meth c 5 r0 σ0 150 [(0, .ref (ad 0)), (1, .int v1), (3, .int y132)] [] y150) h (fun y150 h => ?_) (fun j150 hj150 h => ?_)
              · refine q_aload_n C dX6_expression_150 rfl 0 rfl ?_
                refine q_get C (Cn := RX6) (T := TX6) (Nf := 60) (ci := 6) (id := 0) (k := 13) (v := .int (y150.1 0 13)) nX6_expression_X6 (by decide) (ceM_0 ad cy _ _ _) rfl (by decide) rfl hX6_expression_188 dX6_expression_151 ?_
                refine q_if_le C (tgt := 158) dX6_expression_154 (by decide) h (fun h => ?_) (fun h => ?_)
                · refine q_iload_n C dX6_expression_158 rfl 2 rfl ?_
                  refine q_join (G := fun (y196 : St) => qVv ceM 42 ad cy X A D p l e (headSpec wsX6_expression rmX6_expression).room s m args below meth c 5 r0 σ0 196 [(0, .ref (ad 0)), (1, .int v1)] [] y196) h (fun y196 h => ?_) (fun j196 hj196 h => ?_)
                  · refine q_aload_n C dX6_expression_196 rfl 0 rfl ?_
                    refine q_callVv C (rm := rmX6_next) (As := []) (rest := []) (id := 0) (ci := 6) (fun r9 σ9 h9 => kX6_next l D ad cy X A zs y196 r9 σ9 h9) gX6_expression_X6_next rfl rfl rfl hyX6_next ⟨Nat.le_of_ble_eq_true rfl, Nat.le_of_ble_eq_true rfl⟩ (by decide) (ceM_0 ad cy _ _ _) rfl rfl rfl (Nat.le_of_ble_eq_true rfl) dX6_expression_197 ⟨Nat.zero_le _, Nat.zero_le _⟩ h (fun r197 σ197 h => ?_)
                    exact q_sub [0, 1] rfl (ih.2 v1 σ197 h)
                  refine q_if_eq C (tgt := 182) dX6_expression_159 (by decide) h (fun h => ?_) (fun h => ?_)
                  · refine q_aload_n C dX6_expression_182 rfl 0 rfl ?_
                    refine q_iconst C (v := 0) dX6_expression_183 (by decide) ?_
                    refine q_aload_n C dX6_expression_184 rfl 0 rfl ?_
                    refine q_get C (Cn := RX6) (T := TX6) (Nf := 60) (ci := 6) (id := 0) (k := 7) (v := .ref (ad 5)) nX6_expression_X6 (by decide) (ceM_0 ad cy _ _ _) rfl (by decide) rfl hX6_expression_27 dX6_expression_185 ?_
                    refine q_aload_n C dX6_expression_188 rfl 0 rfl ?_
                    refine q_get C (Cn := RX6) (T := TX6) (Nf := 60) (ci := 6) (id := 0) (k := 11) (v := .int (y150.1 0 11)) nX6_expression_X6 (by decide) (ceM_0 ad cy _ _ _) rfl (by decide) rfl hX6_expression_191 dX6_expression_189 ?_
                    refine q_iald C (id := 5) (by decide) (ceM_5 ad cy _ _ _) dX6_expression_192 h (fun h => ?_)
                    refine q_callVv C (rm := rmX6_emit) (As := [.int (0 : Int32), .int (y150.1 5 (y150.1 0 11).toNatClampNeg)]) (rest := []) (id := 0) (ci := 6) (fun r9 σ9 h9 => kX6_emit l D ad cy X A zs y150 (0 : Int32) (y150.1 5 (y150.1 0 11).toNatClampNeg) r9 σ9 h9) gX6_expression_X6_emit rfl rfl rfl hyX6_emit ⟨Nat.le_of_ble_eq_true rfl, Nat.le_of_ble_eq_true rfl⟩ (by decide) (ceM_0 ad cy _ _ _) rfl rfl rfl (Nat.le_of_ble_eq_true rfl) dX6_expression_193 ⟨Nat.zero_le _, Nat.zero_le _⟩ h (fun r193 σ193 h => ?_)
                    exact q_sub [0, 1] rfl (hj196 σ193 h)
                  · refine q_aload_n C dX6_expression_162 rfl 0 rfl ?_
                    refine q_iconst C (v := 1) dX6_expression_163 (by decide) ?_
                    refine q_aload_n C dX6_expression_164 rfl 0 rfl ?_
                    refine q_get C (Cn := RX6) (T := TX6) (Nf := 60) (ci := 6) (id := 0) (k := 5) (v := .ref (ad 3)) nX6_expression_X6 (by decide) (ceM_0 ad cy _ _ _) rfl (by decide) rfl hX6_expression_20 dX6_expression_165 ?_
                    refine q_aload_n C dX6_expression_168 rfl 0 rfl ?_
                    refine q_get C (Cn := RX6) (T := TX6) (Nf := 60) (ci := 6) (id := 0) (k := 11) (v := .int (y150.1 0 11)) nX6_expression_X6 (by decide) (ceM_0 ad cy _ _ _) rfl (by decide) rfl hX6_expression_191 dX6_expression_169 ?_
                    refine q_iald C (id := 3) (by decide) (ceM_3 ad cy _ _ _) dX6_expression_172 h (fun h => ?_)
                    refine q_bipush C (v := 26) dX6_expression_173 (by decide) ?_
                    refine q_isub C dX6_expression_175 ?_
                    refine q_callVv C (rm := rmX6_emit) (As := [.int (1 : Int32), .int ((y150.1 3 (y150.1 0 11).toNatClampNeg) - (26 : Int32))]) (rest := []) (id := 0) (ci := 6) (fun r9 σ9 h9 => kX6_emit l D ad cy X A zs y150 (1 : Int32) ((y150.1 3 (y150.1 0 11).toNatClampNeg) - (26 : Int32)) r9 σ9 h9) gX6_expression_X6_emit rfl rfl rfl hyX6_emit ⟨Nat.le_of_ble_eq_true rfl, Nat.le_of_ble_eq_true rfl⟩ (by decide) (ceM_0 ad cy _ _ _) rfl rfl rfl (Nat.le_of_ble_eq_true rfl) dX6_expression_176 ⟨Nat.zero_le _, Nat.zero_le _⟩ h (fun r176 σ176 h => ?_)
                    refine q_goto C (tgt := 196) dX6_expression_179 (by decide) ?_
                    exact q_sub [0, 1] rfl (hj196 σ176 h)
                · exact q_vret C (r0 := r0) rfl dX6_expression_157 h
              refine q_if_ne C (tgt := 150) dX6_expression_138 (by decide) h (fun h => ?_) (fun h => ?_)
              · exact q_sub [0, 1, 2] rfl (hj150 σ135 h)
              · refine q_iload_n C dX6_expression_141 rfl 2 rfl ?_
                refine q_if_ne C (tgt := 150) dX6_expression_142 (by decide) h (fun h => ?_) (fun h => ?_)
                · exact q_sub [0, 1, 2] rfl (hj150 σ135 h)
                · refine q_aload_n C dX6_expression_145 rfl 0 rfl ?_
                  refine q_iconst C (v := 1) dX6_expression_146 (by decide) ?_
                  refine q_callVv C (rm := rmX6_fail) (As := [.int (1 : Int32)]) (rest := []) (id := 0) (ci := 6) (fun r9 σ9 h9 => kX6_fail l D ad cy X A zs σ135 (1 : Int32) r9 σ9 h9) gX6_expression_X6_fail rfl rfl rfl hyX6_fail ⟨Nat.le_of_ble_eq_true rfl, Nat.le_of_ble_eq_true rfl⟩ (by decide) (ceM_0 ad cy _ _ _) rfl rfl rfl (Nat.le_of_ble_eq_true rfl) dX6_expression_147 ⟨Nat.zero_le _, Nat.zero_le _⟩ h (fun r147 σ147 h => ?_)
                  exact q_sub [0, 1, 2] rfl (hj150 σ147 h)
            refine q_join (G := fun (y131 : Unit) => qVv ceM 42 ad cy X A D p l e (headSpec wsX6_expression rmX6_expression).room s m args below meth c 5 r0 σ0 131 [(0, .ref (ad 0)), (1, .int v1)] [] σ26) h (fun y131 h => ?_) (fun j131 hj131 h => ?_)
            · refine q_iconst C (v := 0) dX6_expression_131 (by decide) ?_
              exact q_sub [0, 1] rfl (hj132 (0 : Int32) h)
            refine q_if_ne C (tgt := 131) dX6_expression_96 (by decide) h (fun h => ?_) (fun h => ?_)
            · exact q_sub [0, 1] rfl (hj131 () h)
            · refine q_aload_n C dX6_expression_99 rfl 0 rfl ?_
              refine q_get C (Cn := RX6) (T := TX6) (Nf := 60) (ci := 6) (id := 0) (k := 5) (v := .ref (ad 3)) nX6_expression_X6 (by decide) (ceM_0 ad cy _ _ _) rfl (by decide) rfl hX6_expression_20 dX6_expression_100 ?_
              refine q_aload_n C dX6_expression_103 rfl 0 rfl ?_
              refine q_get C (Cn := RX6) (T := TX6) (Nf := 60) (ci := 6) (id := 0) (k := 11) (v := .int (σ26.1 0 11)) nX6_expression_X6 (by decide) (ceM_0 ad cy _ _ _) rfl (by decide) rfl hX6_expression_191 dX6_expression_104 ?_
              refine q_iald C (id := 3) (by decide) (ceM_3 ad cy _ _ _) dX6_expression_107 h (fun h => ?_)
              refine q_bipush C (v := 26) dX6_expression_108 (by decide) ?_
              refine q_icmp_lt C (tgt := 131) dX6_expression_110 (by decide) h (fun h => ?_) (fun h => ?_)
              · exact q_sub [0, 1] rfl (hj131 () h)
              · refine q_aload_n C dX6_expression_113 rfl 0 rfl ?_
                refine q_get C (Cn := RX6) (T := TX6) (Nf := 60) (ci := 6) (id := 0) (k := 5) (v := .ref (ad 3)) nX6_expression_X6 (by decide) (ceM_0 ad cy _ _ _) rfl (by decide) rfl hX6_expression_20 dX6_expression_114 ?_
                refine q_aload_n C dX6_expression_117 rfl 0 rfl ?_
                refine q_get C (Cn := RX6) (T := TX6) (Nf := 60) (ci := 6) (id := 0) (k := 11) (v := .int (σ26.1 0 11)) nX6_expression_X6 (by decide) (ceM_0 ad cy _ _ _) rfl (by decide) rfl hX6_expression_191 dX6_expression_118 ?_
                refine q_iald C (id := 3) (by decide) (ceM_3 ad cy _ _ _) dX6_expression_121 h (fun h => ?_)
                refine q_bipush C (v := 33) dX6_expression_122 (by decide) ?_
                refine q_icmp_gt C (tgt := 131) dX6_expression_124 (by decide) h (fun h => ?_) (fun h => ?_)
                · exact q_sub [0, 1] rfl (hj131 () h)
                · refine q_iconst C (v := 1) dX6_expression_127 (by decide) ?_
                  refine q_goto C (tgt := 132) dX6_expression_128 (by decide) ?_
                  exact q_sub [0, 1] rfl (hj132 (1 : Int32) h)
          · refine q_aload_n C dX6_expression_32 rfl 0 rfl ?_
            refine q_get C (Cn := RX6) (T := TX6) (Nf := 60) (ci := 6) (id := 0) (k := 12) (v := .int (σ26.1 0 12)) nX6_expression_X6 (by decide) (ceM_0 ad cy _ _ _) rfl (by decide) rfl hX6_expression_218 dX6_expression_33 ?_
            refine q_bipush C (v := 6) dX6_expression_36 (by decide) ?_
            refine q_join (G := fun (y46 : St) => qVv ceM 42 ad cy X A D p l e (headSpec wsX6_expression rmX6_expression).room s m args below meth c 5 r0 σ0 46 [(0, .ref (ad 0)), (1, .int v1), (2, .int v2)] [] y46) h (fun y46 h => ?_) (fun j46 hj46 h => ?_)
            · refine q_aload_n C dX6_expression_46 rfl 0 rfl ?_
              refine q_get C (Cn := RX6) (T := TX6) (Nf := 60) (ci := 6) (id := 0) (k := 13) (v := .int (y46.1 0 13)) nX6_expression_X6 (by decide) (ceM_0 ad cy _ _ _) rfl (by decide) rfl hX6_expression_188 dX6_expression_47 ?_
              refine q_if_le C (tgt := 54) dX6_expression_50 (by decide) h (fun h => ?_) (fun h => ?_)
              · refine q_aload_n C dX6_expression_54 rfl 0 rfl ?_
                refine q_dup C dX6_expression_55 rfl ?_
                refine q_get C (Cn := RX6) (T := TX6) (Nf := 60) (ci := 6) (id := 0) (k := 12) (v := .int (y46.1 0 12)) nX6_expression_X6 (by decide) (ceM_0 ad cy _ _ _) rfl (by decide) rfl hX6_expression_218 dX6_expression_56 ?_
                refine q_iconst C (v := 1) dX6_expression_59 (by decide) ?_
                refine q_iadd C dX6_expression_60 ?_
                refine q_put C (Cn := RX6) (T := TX6) (ty0 := tyX6) (Nf := 60) (ci := 6) (id := 0) (k := 12) (y := 0) tyX6_ok nmX6 nX6_expression_X6 (by decide) (ceM_0 ad cy _ _ _) (ceM_0 ad cy _ _ _) rfl (by decide) rfl (by decide +kernel) (Nat.le_of_ble_eq_true rfl) hX6_expression_218 dX6_expression_61 h (fun σ61 h => ?_)
                refine q_aload_n C dX6_expression_64 rfl 0 rfl ?_
                refine q_callVv C (rm := rmX6_next) (As := []) (rest := []) (id := 0) (ci := 6) (fun r9 σ9 h9 => kX6_next l D ad cy X A zs σ61 r9 σ9 h9) gX6_expression_X6_next rfl rfl rfl hyX6_next ⟨Nat.le_of_ble_eq_true rfl, Nat.le_of_ble_eq_true rfl⟩ (by decide) (ceM_0 ad cy _ _ _) rfl rfl rfl (Nat.le_of_ble_eq_true rfl) dX6_expression_65 ⟨Nat.zero_le _, Nat.zero_le _⟩ h (fun r65 σ65 h => ?_)
                refine q_aload_n C dX6_expression_68 rfl 0 rfl ?_
                refine q_get C (Cn := RX6) (T := TX6) (Nf := 60) (ci := 6) (id := 0) (k := 33) (v := .ref (ad 21)) nX6_expression_X6 (by decide) (ceM_0 ad cy _ _ _) rfl (by decide) rfl hX6_expression_80 dX6_expression_69 ?_
                refine q_aload_n C dX6_expression_72 rfl 0 rfl ?_
                refine q_get C (Cn := RX6) (T := TX6) (Nf := 60) (ci := 6) (id := 0) (k := 34) (v := .int (σ65.1 0 34)) nX6_expression_X6 (by decide) (ceM_0 ad cy _ _ _) rfl (by decide) rfl hX6_expression_240 dX6_expression_73 ?_
                refine q_bipush C (v := 6) dX6_expression_76 (by decide) ?_
                refine q_iast C (id := 21) (by decide) (fun f g => ceM_21 ad cy _ f g) dX6_expression_78 h (fun σ78 h => ?_)
                refine q_aload_n C dX6_expression_79 rfl 0 rfl ?_
                refine q_dup C dX6_expression_80 rfl ?_
                refine q_get C (Cn := RX6) (T := TX6) (Nf := 60) (ci := 6) (id := 0) (k := 34) (v := .int (σ78.1 0 34)) nX6_expression_X6 (by decide) (ceM_0 ad cy _ _ _) rfl (by decide) rfl hX6_expression_240 dX6_expression_81 ?_
                refine q_iconst C (v := 1) dX6_expression_84 (by decide) ?_
                refine q_iadd C dX6_expression_85 ?_
                refine q_put C (Cn := RX6) (T := TX6) (ty0 := tyX6) (Nf := 60) (ci := 6) (id := 0) (k := 34) (y := 0) tyX6_ok nmX6 nX6_expression_X6 (by decide) (ceM_0 ad cy _ _ _) (ceM_0 ad cy _ _ _) rfl (by decide) rfl (by decide +kernel) (Nat.le_of_ble_eq_true rfl) hX6_expression_240 dX6_expression_86 h (fun σ86 h => ?_)
                refine q_goto C (tgt := 12) dX6_expression_89 (by decide) ?_
                exact q_sub [0, 1, 2] rfl (ih.1 v1 v2 σ86 h)
              · exact q_vret C (r0 := r0) rfl dX6_expression_53 h
            refine q_icmp_ne C (tgt := 46) dX6_expression_38 (by decide) h (fun h => ?_) (fun h => ?_)
            · exact q_sub [0, 1, 2] rfl (hj46 σ26 h)
            · refine q_aload_n C dX6_expression_41 rfl 0 rfl ?_
              refine q_iconst C (v := 2) dX6_expression_42 (by decide) ?_
              refine q_callVv C (rm := rmX6_fail) (As := [.int (2 : Int32)]) (rest := []) (id := 0) (ci := 6) (fun r9 σ9 h9 => kX6_fail l D ad cy X A zs σ26 (2 : Int32) r9 σ9 h9) gX6_expression_X6_fail rfl rfl rfl hyX6_fail ⟨Nat.le_of_ble_eq_true rfl, Nat.le_of_ble_eq_true rfl⟩ (by decide) (ceM_0 ad cy _ _ _) rfl rfl rfl (Nat.le_of_ble_eq_true rfl) dX6_expression_43 ⟨Nat.zero_le _, Nat.zero_le _⟩ h (fun r43 σ43 h => ?_)
              exact q_sub [0, 1, 2] rfl (hj46 σ43 h)
    · intro v1 σ h
      rw [fX6_expression_L] at h
      rw [if_neg (by decide)] at h
      refine q_aload_n C dX6_expression_200 rfl 0 rfl ?_
      refine q_bipush C (v := 7) dX6_expression_201 (by decide) ?_
      refine q_callVi C (rm := rmX6_is) (As := [.int (7 : Int32)]) (rest := []) (id := 0) (ci := 6) (fun r9 σ9 h9 => kX6_is l D ad cy X A zs σ (7 : Int32) r9 σ9 h9) gX6_expression_X6_is rfl rfl rfl hyX6_is ⟨Nat.le_of_ble_eq_true rfl, Nat.le_of_ble_eq_true rfl⟩ (by decide) (ceM_0 ad cy _ _ _) rfl rfl rfl (Nat.le_of_ble_eq_true rfl) dX6_expression_203 ⟨Nat.zero_le _, Nat.zero_le _⟩ h (fun r203 σ203 h => ?_)
      refine q_join (G := fun (y249 : Unit) => qVv ceM 42 ad cy X A D p l e (headSpec wsX6_expression rmX6_expression).room s m args below meth c 5 r0 σ0 249 [(0, .ref (ad 0)), (1, .int v1)] [] σ203) h (fun y249 h => ?_) (fun j249 hj249 h => ?_)
      · refine q_aload_n C dX6_expression_249 rfl 0 rfl ?_
        refine q_bipush C (v := 8) dX6_expression_250 (by decide) ?_
        refine q_callVi C (rm := rmX6_is) (As := [.int (8 : Int32)]) (rest := []) (id := 0) (ci := 6) (fun r9 σ9 h9 => kX6_is l D ad cy X A zs σ203 (8 : Int32) r9 σ9 h9) gX6_expression_X6_is rfl rfl rfl hyX6_is ⟨Nat.le_of_ble_eq_true rfl, Nat.le_of_ble_eq_true rfl⟩ (by decide) (ceM_0 ad cy _ _ _) rfl rfl rfl (Nat.le_of_ble_eq_true rfl) dX6_expression_252 ⟨Nat.zero_le _, Nat.zero_le _⟩ h (fun r252 σ252 h => ?_)
        refine q_join (G := fun (y281 : Int32 × St) => qVv ceM 42 ad cy X A D p l e (headSpec wsX6_expression rmX6_expression).room s m args below meth c 5 r0 σ0 281 [(0, .ref (ad 0)), (1, .int v1)] [.int y281.1] y281.2) h (fun y281 h => ?_) (fun j281 hj281 h => ?_)
        · refine q_istore_nL C dX6_expression_281 rfl (by decide) h (lw := fun x281 => [(0, .ref (ad 0)), (1, .int v1), (2, .int x281)]) (fun _ => rfl) (fun x281 h => ?_)
          refine q_iload_n C dX6_expression_282 rfl 2 rfl ?_
          refine q_if_ne C (tgt := 305) dX6_expression_283 (by decide) h (fun h => ?_) (fun h => ?_)
          · refine q_aload_n C dX6_expression_305 rfl 0 rfl ?_
            refine q_get C (Cn := RX6) (T := TX6) (Nf := 60) (ci := 6) (id := 0) (k := 5) (v := .ref (ad 3)) nX6_expression_X6 (by decide) (ceM_0 ad cy _ _ _) rfl (by decide) rfl hX6_expression_20 dX6_expression_306 ?_
            refine q_aload_n C dX6_expression_309 rfl 0 rfl ?_
            refine q_get C (Cn := RX6) (T := TX6) (Nf := 60) (ci := 6) (id := 0) (k := 11) (v := .int (y281.2.1 0 11)) nX6_expression_X6 (by decide) (ceM_0 ad cy _ _ _) rfl (by decide) rfl hX6_expression_191 dX6_expression_310 ?_
            refine q_iald C (id := 3) (by decide) (ceM_3 ad cy _ _ _) dX6_expression_313 h (fun h => ?_)
            refine q_istoreL C dX6_expression_314 (by decide) h (lw := fun x314 => [(0, .ref (ad 0)), (1, .int v1), (2, .int x281), (4, .int x314)]) (fun _ => rfl) (fun x314 h => ?_)
            refine q_aload_n C dX6_expression_316 rfl 0 rfl ?_
            refine q_iload C dX6_expression_317 3 rfl ?_
            refine q_bipush C (v := 10) dX6_expression_319 (by decide) ?_
            refine q_join (G := fun (y329 : Int32) => qVv ceM 42 ad cy X A D p l e (headSpec wsX6_expression rmX6_expression).room s m args below meth c 5 r0 σ0 329 [(0, .ref (ad 0)), (1, .int v1), (2, .int x281), (4, .int x314)] [.int y329, .ref (ad 0)] y281.2) h (fun y329 h => ?_) (fun j329 hj329 h => ?_)
            · refine q_callVv C (rm := rmX6_comesOut) (As := [.int y329]) (rest := []) (id := 0) (ci := 6) (fun r9 σ9 h9 => kX6_comesOut l D ad cy X A zs y281.2 y329 r9 σ9 h9) gX6_expression_X6_comesOut rfl rfl rfl hyX6_comesOut ⟨Nat.le_of_ble_eq_true rfl, Nat.le_of_ble_eq_true rfl⟩ (by decide) (ceM_0 ad cy _ _ _) rfl rfl rfl (Nat.le_of_ble_eq_true rfl) dX6_expression_329 ⟨Nat.zero_le _, Nat.zero_le _⟩ h (fun r329 σ329 h => ?_)
              refine q_aload_n C dX6_expression_332 rfl 0 rfl ?_
              refine q_get C (Cn := RX6) (T := TX6) (Nf := 60) (ci := 6) (id := 0) (k := 33) (v := .ref (ad 21)) nX6_expression_X6 (by decide) (ceM_0 ad cy _ _ _) rfl (by decide) rfl hX6_expression_80 dX6_expression_333 ?_
              refine q_aload_n C dX6_expression_336 rfl 0 rfl ?_
              refine q_get C (Cn := RX6) (T := TX6) (Nf := 60) (ci := 6) (id := 0) (k := 34) (v := .int (σ329.1 0 34)) nX6_expression_X6 (by decide) (ceM_0 ad cy _ _ _) rfl (by decide) rfl hX6_expression_240 dX6_expression_337 ?_
              refine q_iload C dX6_expression_340 3 rfl ?_
              refine q_iast C (id := 21) (by decide) (fun f g => ceM_21 ad cy _ f g) dX6_expression_342 h (fun σ342 h => ?_)
              refine q_aload_n C dX6_expression_343 rfl 0 rfl ?_
              refine q_dup C dX6_expression_344 rfl ?_
              refine q_get C (Cn := RX6) (T := TX6) (Nf := 60) (ci := 6) (id := 0) (k := 34) (v := .int (σ342.1 0 34)) nX6_expression_X6 (by decide) (ceM_0 ad cy _ _ _) rfl (by decide) rfl hX6_expression_240 dX6_expression_345 ?_
              refine q_iconst C (v := 1) dX6_expression_348 (by decide) ?_
              refine q_iadd C dX6_expression_349 ?_
              refine q_put C (Cn := RX6) (T := TX6) (ty0 := tyX6) (Nf := 60) (ci := 6) (id := 0) (k := 34) (y := 0) tyX6_ok nmX6 nX6_expression_X6 (by decide) (ceM_0 ad cy _ _ _) (ceM_0 ad cy _ _ _) rfl (by decide) rfl (by decide +kernel) (Nat.le_of_ble_eq_true rfl) hX6_expression_240 dX6_expression_350 h (fun σ350 h => ?_)
              refine q_aload_n C dX6_expression_353 rfl 0 rfl ?_
              refine q_callVv C (rm := rmX6_next) (As := []) (rest := []) (id := 0) (ci := 6) (fun r9 σ9 h9 => kX6_next l D ad cy X A zs σ350 r9 σ9 h9) gX6_expression_X6_next rfl rfl rfl hyX6_next ⟨Nat.le_of_ble_eq_true rfl, Nat.le_of_ble_eq_true rfl⟩ (by decide) (ceM_0 ad cy _ _ _) rfl rfl rfl (Nat.le_of_ble_eq_true rfl) dX6_expression_354 ⟨Nat.zero_le _, Nat.zero_le _⟩ h (fun r354 σ354 h => ?_)
              refine q_goto C (tgt := 12) dX6_expression_357 (by decide) ?_
              exact q_sub [0, 1, 2] rfl (ih.1 v1 x281 σ354 h)
            refine q_icmp_ne C (tgt := 328) dX6_expression_321 (by decide) h (fun h => ?_) (fun h => ?_)
            · refine q_iconst C (v := 0) dX6_expression_328 (by decide) ?_
              exact q_sub [0, 1, 2, 3] rfl (hj329 (0 : Int32) h)
            · refine q_iconst C (v := 1) dX6_expression_324 (by decide) ?_
              refine q_goto C (tgt := 329) dX6_expression_325 (by decide) ?_
              exact q_sub [0, 1, 2, 3] rfl (hj329 (1 : Int32) h)
          · refine q_aload_n C dX6_expression_286 rfl 0 rfl ?_
            refine q_get C (Cn := RX6) (T := TX6) (Nf := 60) (ci := 6) (id := 0) (k := 12) (v := .int (y281.2.1 0 12)) nX6_expression_X6 (by decide) (ceM_0 ad cy _ _ _) rfl (by decide) rfl hX6_expression_218 dX6_expression_287 ?_
            refine q_iload_n C dX6_expression_290 rfl 1 rfl ?_
            refine q_join (G := fun (y299 : St) => qVv ceM 42 ad cy X A D p l e (headSpec wsX6_expression rmX6_expression).room s m args below meth c 5 r0 σ0 299 [(0, .ref (ad 0))] [] y299) h (fun y299 h => ?_) (fun j299 hj299 h => ?_)
            · refine q_aload_n C dX6_expression_299 rfl 0 rfl ?_
              refine q_iconst C (v := 0) dX6_expression_300 (by decide) ?_
              refine q_callVv C (rm := rmX6_comesOut) (As := [.int (0 : Int32)]) (rest := []) (id := 0) (ci := 6) (fun r9 σ9 h9 => kX6_comesOut l D ad cy X A zs y299 (0 : Int32) r9 σ9 h9) gX6_expression_X6_comesOut rfl rfl rfl hyX6_comesOut ⟨Nat.le_of_ble_eq_true rfl, Nat.le_of_ble_eq_true rfl⟩ (by decide) (ceM_0 ad cy _ _ _) rfl rfl rfl (Nat.le_of_ble_eq_true rfl) dX6_expression_301 ⟨Nat.zero_le _, Nat.zero_le _⟩ h (fun r301 σ301 h => ?_)
              exact q_vret C (r0 := r0) rfl dX6_expression_304 h
            refine q_icmp_le C (tgt := 299) dX6_expression_291 (by decide) h (fun h => ?_) (fun h => ?_)
            · exact q_sub [0] rfl (hj299 y281.2 h)
            · refine q_aload_n C dX6_expression_294 rfl 0 rfl ?_
              refine q_iconst C (v := 1) dX6_expression_295 (by decide) ?_
              refine q_callVv C (rm := rmX6_fail) (As := [.int (1 : Int32)]) (rest := []) (id := 0) (ci := 6) (fun r9 σ9 h9 => kX6_fail l D ad cy X A zs y281.2 (1 : Int32) r9 σ9 h9) gX6_expression_X6_fail rfl rfl rfl hyX6_fail ⟨Nat.le_of_ble_eq_true rfl, Nat.le_of_ble_eq_true rfl⟩ (by decide) (ceM_0 ad cy _ _ _) rfl rfl rfl (Nat.le_of_ble_eq_true rfl) dX6_expression_296 ⟨Nat.zero_le _, Nat.zero_le _⟩ h (fun r296 σ296 h => ?_)
              exact q_sub [0] rfl (hj299 σ296 h)
        refine q_join (G := fun (y276 : St) => qVv ceM 42 ad cy X A D p l e (headSpec wsX6_expression rmX6_expression).room s m args below meth c 5 r0 σ0 276 [(0, .ref (ad 0)), (1, .int v1)] [] y276) h (fun y276 h => ?_) (fun j276 hj276 h => ?_)
        · refine q_iconst C (v := 1) dX6_expression_276 (by decide) ?_
          refine q_goto C (tgt := 281) dX6_expression_277 (by decide) ?_
          exact q_sub [0, 1] rfl (hj281 ((1 : Int32), y276) h)
        refine q_if_ne C (tgt := 276) dX6_expression_255 (by decide) h (fun h => ?_) (fun h => ?_)
        · exact q_sub [0, 1] rfl (hj276 σ252 h)
        · refine q_aload_n C dX6_expression_258 rfl 0 rfl ?_
          refine q_bipush C (v := 9) dX6_expression_259 (by decide) ?_
          refine q_callVi C (rm := rmX6_is) (As := [.int (9 : Int32)]) (rest := []) (id := 0) (ci := 6) (fun r9 σ9 h9 => kX6_is l D ad cy X A zs σ252 (9 : Int32) r9 σ9 h9) gX6_expression_X6_is rfl rfl rfl hyX6_is ⟨Nat.le_of_ble_eq_true rfl, Nat.le_of_ble_eq_true rfl⟩ (by decide) (ceM_0 ad cy _ _ _) rfl rfl rfl (Nat.le_of_ble_eq_true rfl) dX6_expression_261 ⟨Nat.zero_le _, Nat.zero_le _⟩ h (fun r261 σ261 h => ?_)
          refine q_if_ne C (tgt := 276) dX6_expression_264 (by decide) h (fun h => ?_) (fun h => ?_)
          · exact q_sub [0, 1] rfl (hj276 σ261 h)
          · refine q_aload_n C dX6_expression_267 rfl 0 rfl ?_
            refine q_bipush C (v := 10) dX6_expression_268 (by decide) ?_
            refine q_callVi C (rm := rmX6_is) (As := [.int (10 : Int32)]) (rest := []) (id := 0) (ci := 6) (fun r9 σ9 h9 => kX6_is l D ad cy X A zs σ261 (10 : Int32) r9 σ9 h9) gX6_expression_X6_is rfl rfl rfl hyX6_is ⟨Nat.le_of_ble_eq_true rfl, Nat.le_of_ble_eq_true rfl⟩ (by decide) (ceM_0 ad cy _ _ _) rfl rfl rfl (Nat.le_of_ble_eq_true rfl) dX6_expression_270 ⟨Nat.zero_le _, Nat.zero_le _⟩ h (fun r270 σ270 h => ?_)
            refine q_if_eq C (tgt := 280) dX6_expression_273 (by decide) h (fun h => ?_) (fun h => ?_)
            · refine q_iconst C (v := 0) dX6_expression_280 (by decide) ?_
              exact q_sub [0, 1] rfl (hj281 ((0 : Int32), σ270) h)
            · exact q_sub [0, 1] rfl (hj276 σ270 h)
      refine q_if_eq C (tgt := 249) dX6_expression_206 (by decide) h (fun h => ?_) (fun h => ?_)
      · exact q_sub [0, 1] rfl (hj249 () h)
      · refine q_aload_n C dX6_expression_209 rfl 0 rfl ?_
        refine q_get C (Cn := RX6) (T := TX6) (Nf := 60) (ci := 6) (id := 0) (k := 12) (v := .int (σ203.1 0 12)) nX6_expression_X6 (by decide) (ceM_0 ad cy _ _ _) rfl (by decide) rfl hX6_expression_218 dX6_expression_210 ?_
        refine q_iload_n C dX6_expression_213 rfl 1 rfl ?_
        refine q_icmp_le C (tgt := 249) dX6_expression_214 (by decide) h (fun h => ?_) (fun h => ?_)
        · exact q_sub [0, 1] rfl (hj249 () h)
        · refine q_aload_n C dX6_expression_217 rfl 0 rfl ?_
          refine q_iconst C (v := 0) dX6_expression_218 (by decide) ?_
          refine q_callVv C (rm := rmX6_comesOut) (As := [.int (0 : Int32)]) (rest := []) (id := 0) (ci := 6) (fun r9 σ9 h9 => kX6_comesOut l D ad cy X A zs σ203 (0 : Int32) r9 σ9 h9) gX6_expression_X6_comesOut rfl rfl rfl hyX6_comesOut ⟨Nat.le_of_ble_eq_true rfl, Nat.le_of_ble_eq_true rfl⟩ (by decide) (ceM_0 ad cy _ _ _) rfl rfl rfl (Nat.le_of_ble_eq_true rfl) dX6_expression_219 ⟨Nat.zero_le _, Nat.zero_le _⟩ h (fun r219 σ219 h => ?_)
          refine q_aload_n C dX6_expression_222 rfl 0 rfl ?_
          refine q_dup C dX6_expression_223 rfl ?_
          refine q_get C (Cn := RX6) (T := TX6) (Nf := 60) (ci := 6) (id := 0) (k := 34) (v := .int (σ219.1 0 34)) nX6_expression_X6 (by decide) (ceM_0 ad cy _ _ _) rfl (by decide) rfl hX6_expression_240 dX6_expression_224 ?_
          refine q_iconst C (v := 1) dX6_expression_227 (by decide) ?_
          refine q_isub C dX6_expression_228 ?_
          refine q_put C (Cn := RX6) (T := TX6) (ty0 := tyX6) (Nf := 60) (ci := 6) (id := 0) (k := 34) (y := 0) tyX6_ok nmX6 nX6_expression_X6 (by decide) (ceM_0 ad cy _ _ _) (ceM_0 ad cy _ _ _) rfl (by decide) rfl (by decide +kernel) (Nat.le_of_ble_eq_true rfl) hX6_expression_240 dX6_expression_229 h (fun σ229 h => ?_)
          refine q_aload_n C dX6_expression_232 rfl 0 rfl ?_
          refine q_dup C dX6_expression_233 rfl ?_
          refine q_get C (Cn := RX6) (T := TX6) (Nf := 60) (ci := 6) (id := 0) (k := 12) (v := .int (σ229.1 0 12)) nX6_expression_X6 (by decide) (ceM_0 ad cy _ _ _) rfl (by decide) rfl hX6_expression_218 dX6_expression_234 ?_
          refine q_iconst C (v := 1) dX6_expression_237 (by decide) ?_
          refine q_isub C dX6_expression_238 ?_
          refine q_put C (Cn := RX6) (T := TX6) (ty0 := tyX6) (Nf := 60) (ci := 6) (id := 0) (k := 12) (y := 0) tyX6_ok nmX6 nX6_expression_X6 (by decide) (ceM_0 ad cy _ _ _) (ceM_0 ad cy _ _ _) rfl (by decide) rfl (by decide +kernel) (Nat.le_of_ble_eq_true rfl) hX6_expression_218 dX6_expression_239 h (fun σ239 h => ?_)
          refine q_aload_n C dX6_expression_242 rfl 0 rfl ?_
          refine q_callVv C (rm := rmX6_next) (As := []) (rest := []) (id := 0) (ci := 6) (fun r9 σ9 h9 => kX6_next l D ad cy X A zs σ239 r9 σ9 h9) gX6_expression_X6_next rfl rfl rfl hyX6_next ⟨Nat.le_of_ble_eq_true rfl, Nat.le_of_ble_eq_true rfl⟩ (by decide) (ceM_0 ad cy _ _ _) rfl rfl rfl (Nat.le_of_ble_eq_true rfl) dX6_expression_243 ⟨Nat.zero_le _, Nat.zero_le _⟩ h (fun r243 σ243 h => ?_)
          refine q_goto C (tgt := 200) dX6_expression_246 (by decide) ?_
          exact q_sub [0, 1] rfl (ih.2 v1 σ243 h)
set_option maxHeartbeats 4000000 in
set_option maxRecDepth 100000 in
theorem kX6_expression (l : Launch) (D : va_G) (ad : Nat → Nat) (cy : Nat → ClassId) (X : va_W) (A : Nat → Prop) (zs : Nat × Nat × Option Nat) (σ : St) (r0 : Int32) (σ0 : St) (h : fX6_expression σ = some (r0, σ0)) : Met l yX6_expression wsX6_expression rmX6_expression (qPc ceM 42 ad cy X A D zs [.ref (ad 0)] σ) (qQv ceM 42 ad cy X A D σ0) 0 0 A := by
  refine Met.ofW (cc := cX6_expression) (maxL := 5) (ret := none) (by decide) rfl ?_
  intro p e s m args below meth c s₁ B hml hv
  obtain ⟨ha, hP, hK, hE, hD⟩ := hv
  have C : qC ceM 42 ad cy X A D zs cX6_expression 5 RX6 wsX6_expression p s m args meth c none := ⟨B.exec, B.bytes, hml, findClass_of_methodNamed B.named, atoms_spec (ws := wsX6_expression) B.pre, hK, hD, B.returns, B.notSynchronized, hE⟩
  rw [show entryFrame m args 5 = entryFrame m ([.ref (ad 0)] : List Value).toArray 5 by rw [ha]]
  refine q_entry (A := A) (Nat.le_of_ble_eq_true rfl) hP (lv := [(0, .ref (ad 0))]) rfl ?_
  unfold fX6_expression at h
  refine q_aload_n C dX6_expression_0 rfl 0 rfl ?_
  refine q_iconst C (v := 0) dX6_expression_1 (by decide) ?_
  refine q_put C (Cn := RX6) (T := TX6) (ty0 := tyX6) (Nf := 60) (ci := 6) (id := 0) (k := 34) (y := 0) tyX6_ok nmX6 nX6_expression_X6 (by decide) (ceM_0 ad cy _ _ _) (ceM_0 ad cy _ _ _) rfl (by decide) rfl (by decide +kernel) (Nat.le_of_ble_eq_true rfl) hX6_expression_240 dX6_expression_2 h (fun σ2 h => ?_)
  refine q_aload_n C dX6_expression_5 rfl 0 rfl ?_
  refine q_get C (Cn := RX6) (T := TX6) (Nf := 60) (ci := 6) (id := 0) (k := 12) (v := .int (σ2.1 0 12)) nX6_expression_X6 (by decide) (ceM_0 ad cy _ _ _) rfl (by decide) rfl hX6_expression_218 dX6_expression_6 ?_
  refine q_istore_nL C dX6_expression_9 rfl (by decide) h (lw := fun x9 => [(0, .ref (ad 0)), (1, .int x9)]) (fun _ => rfl) (fun x9 h => ?_)
  refine q_iconst C (v := 1) dX6_expression_10 (by decide) ?_
  refine q_istore_n C dX6_expression_11 rfl (by decide) (lv' := [(0, .ref (ad 0)), (1, .int x9), (2, .int (1 : Int32))]) rfl ?_
  exact q_sub [0, 1, 2] rfl ((kX6_expression_L C r0 σ0 100000).1 x9 (1 : Int32) σ2 h)
abbrev rmX6_relation : Room := { frames := 3, cells := 0, slots := 0, locals := 68 }
theorem hyX6_relation : yX6_relation.cls = RX6 ∧ yX6_relation.cls ≠ "java/lang/invoke/MethodHandle" ∧ yX6_relation.cls ≠ "java/lang/invoke/VarHandle" ∧ (parseMethodDescriptor yX6_relation.desc).map (fun d => d.parameters.length) = some 1 := by decide +kernel
theorem nX6_relation_X6 : ∀ w ∈ u_ws RX6 TX6 60, w ∈ wsX6_relation := fun w h => List.mem_cons_of_mem _ (List.mem_append_right _ h)
theorem hX6_relation_224 : Cond.fieldLink RX6 224 (TX6 30).1 (TX6 30).2.1 (TX6 30).2.2.1 ∈ wsX6_relation := by decide +kernel
theorem hX6_relation_188 : Cond.fieldLink RX6 188 (TX6 13).1 (TX6 13).2.1 (TX6 13).2.2.1 ∈ wsX6_relation := by decide +kernel
theorem hX6_relation_20 : Cond.fieldLink RX6 20 (TX6 5).1 (TX6 5).2.1 (TX6 5).2.2.1 ∈ wsX6_relation := by decide +kernel
theorem hX6_relation_191 : Cond.fieldLink RX6 191 (TX6 11).1 (TX6 11).2.1 (TX6 11).2.2.1 ∈ wsX6_relation := by decide +kernel
theorem hX6_relation_221 : Cond.fieldLink RX6 221 (TX6 19).1 (TX6 19).2.1 (TX6 19).2.2.1 ∈ wsX6_relation := by decide +kernel
theorem hX6_relation_55 : Cond.fieldLink RX6 55 (TX6 24).1 (TX6 24).2.1 (TX6 24).2.2.1 ∈ wsX6_relation := by decide +kernel
theorem hX6_relation_58 : Cond.fieldLink RX6 58 (TX6 25).1 (TX6 25).2.1 (TX6 25).2.2.1 ∈ wsX6_relation := by decide +kernel
theorem hX6_relation_61 : Cond.fieldLink RX6 61 (TX6 26).1 (TX6 26).2.1 (TX6 26).2.2.1 ∈ wsX6_relation := by decide +kernel
theorem hX6_relation_64 : Cond.fieldLink RX6 64 (TX6 27).1 (TX6 27).2.1 (TX6 27).2.2.1 ∈ wsX6_relation := by decide +kernel
theorem hX6_relation_67 : Cond.fieldLink RX6 67 (TX6 28).1 (TX6 28).2.1 (TX6 28).2.2.1 ∈ wsX6_relation := by decide +kernel
theorem hX6_relation_70 : Cond.fieldLink RX6 70 (TX6 29).1 (TX6 29).2.1 (TX6 29).2.2.1 ∈ wsX6_relation := by decide +kernel
def fX6_relation (σ : St) (a1 : Int32) : Option (Int32 × St) := qlet (σ.1 0 30) (fun x4 => qcall (fX6_expression σ) (fun _ σ6 => qlet (fun (y32 : Int32) => (qlet (fun (y54 : St) => (qcall (fX6_next y54) (fun _ σ55 => qlet (σ55.1 0 30) (fun x62 => qcall (fX6_expression σ55) (fun _ σ65 => if (σ65.1 0 13) ≤ (0 : Int32) then (qix (σ65.1 0 19) 12 (qlet (((200 : Int32) * (σ65.1 0 19)) + (σ65.1 13 (σ65.1 0 19).toNatClampNeg)) (fun x94 => qix x94 2400 (qlet (sI σ65 14 x94.toNatClampNeg y32) (fun σ103 => qix x94 2400 (qlet (sI σ103 15 x94.toNatClampNeg x4) (fun σ111 => qix x94 2400 (qlet (sI σ111 16 x94.toNatClampNeg x62) (fun σ120 => qix x94 2400 (qlet (sI σ120 17 x94.toNatClampNeg (σ120.1 0 30)) (fun σ131 => qix x94 2400 (qlet (sI σ131 18 x94.toNatClampNeg (vp_nar .boolean a1)) (fun σ139 => qix (σ139.1 0 19) 12 (qix (σ139.1 0 19) 12 (qlet (sI σ139 13 (σ139.1 0 19).toNatClampNeg ((σ139.1 13 (σ139.1 0 19).toNatClampNeg) + (1 : Int32))) (fun σ152 => some ((0 : Int32), σ152))))))))))))))))) else (some ((0 : Int32), σ65))))))) (fun j54 => (if (σ6.1 0 13) = (0 : Int32) then (qlet (fun (y49 : Unit) => (qcall (fX6_fail σ6 (1 : Int32)) (fun _ σ51 => j54 σ51))) (fun j49 => (if y32 < (0 : Int32) then (j49 ()) else (if y32 ≤ (3 : Int32) then (j54 σ6) else (j49 ()))))) else (j54 σ6))))) (fun j32 => (if (σ6.1 0 13) ≤ (0 : Int32) then (qix (σ6.1 0 11) 403 (j32 ((σ6.1 3 (σ6.1 0 11).toNatClampNeg) - (11 : Int32)))) else (j32 (0 : Int32))))))
set_option maxHeartbeats 4000000 in
set_option maxRecDepth 100000 in
theorem kX6_relation (l : Launch) (D : va_G) (ad : Nat → Nat) (cy : Nat → ClassId) (X : va_W) (A : Nat → Prop) (zs : Nat × Nat × Option Nat) (σ : St) (a1 : Int32) (r0 : Int32) (σ0 : St) (h : fX6_relation σ a1 = some (r0, σ0)) : Met l yX6_relation wsX6_relation rmX6_relation (qPc ceM 42 ad cy X A D zs [.ref (ad 0), .int a1] σ) (qQv ceM 42 ad cy X A D σ0) 0 0 A := by
  refine Met.ofW (cc := cX6_relation) (maxL := 6) (ret := none) (by decide) rfl ?_
  intro p e s m args below meth c s₁ B hml hv
  obtain ⟨ha, hP, hK, hE, hD⟩ := hv
  have C : qC ceM 42 ad cy X A D zs cX6_relation 6 RX6 wsX6_relation p s m args meth c none := ⟨B.exec, B.bytes, hml, findClass_of_methodNamed B.named, atoms_spec (ws := wsX6_relation) B.pre, hK, hD, B.returns, B.notSynchronized, hE⟩
  rw [show entryFrame m args 6 = entryFrame m ([.ref (ad 0), .int a1] : List Value).toArray 6 by rw [ha]]
  refine q_entry (A := A) (Nat.le_of_ble_eq_true rfl) hP (lv := [(0, .ref (ad 0)), (1, .int a1)]) rfl ?_
  unfold fX6_relation at h
  refine q_aload_n C dX6_relation_0 rfl 0 rfl ?_
  refine q_get C (Cn := RX6) (T := TX6) (Nf := 60) (ci := 6) (id := 0) (k := 30) (v := .int (σ.1 0 30)) nX6_relation_X6 (by decide) (ceM_0 ad cy _ _ _) rfl (by decide) rfl hX6_relation_224 dX6_relation_1 ?_
  refine q_istore_nL C dX6_relation_4 rfl (by decide) h (lw := fun x4 => [(0, .ref (ad 0)), (1, .int a1), (2, .int x4)]) (fun _ => rfl) (fun x4 h => ?_)
  refine q_aload_n C dX6_relation_5 rfl 0 rfl ?_
  refine q_callVv C (rm := rmX6_expression) (As := []) (rest := []) (id := 0) (ci := 6) (fun r9 σ9 h9 => kX6_expression l D ad cy X A zs σ r9 σ9 h9) gX6_relation_X6_expression rfl rfl rfl hyX6_expression ⟨Nat.le_of_ble_eq_true rfl, Nat.le_of_ble_eq_true rfl⟩ (by decide) (ceM_0 ad cy _ _ _) rfl rfl rfl (Nat.le_of_ble_eq_true rfl) dX6_relation_6 ⟨Nat.zero_le _, Nat.zero_le _⟩ h (fun r6 σ6 h => ?_)
  refine q_aload_n C dX6_relation_9 rfl 0 rfl ?_
  refine q_get C (Cn := RX6) (T := TX6) (Nf := 60) (ci := 6) (id := 0) (k := 13) (v := .int (σ6.1 0 13)) nX6_relation_X6 (by decide) (ceM_0 ad cy _ _ _) rfl (by decide) rfl hX6_relation_188 dX6_relation_10 ?_
  refine q_join (G := fun (y32 : Int32) => qVv ceM 42 ad cy X A D p l e (headSpec wsX6_relation rmX6_relation).room s m args below meth c 6 r0 σ0 32 [(0, .ref (ad 0)), (1, .int a1), (2, .int x4)] [.int y32] σ6) h (fun y32 h => ?_) (fun j32 hj32 h => ?_)
  · refine q_istore_n C dX6_relation_32 rfl (by decide) (lv' := [(0, .ref (ad 0)), (1, .int a1), (2, .int x4), (3, .int y32)]) rfl ?_
    refine q_aload_n C dX6_relation_33 rfl 0 rfl ?_
    refine q_get C (Cn := RX6) (T := TX6) (Nf := 60) (ci := 6) (id := 0) (k := 13) (v := .int (σ6.1 0 13)) nX6_relation_X6 (by decide) (ceM_0 ad cy _ _ _) rfl (by decide) rfl hX6_relation_188 dX6_relation_34 ?_
    refine q_join (G := fun (y54 : St) => qVv ceM 42 ad cy X A D p l e (headSpec wsX6_relation rmX6_relation).room s m args below meth c 6 r0 σ0 54 [(0, .ref (ad 0)), (1, .int a1), (2, .int x4), (3, .int y32)] [] y54) h (fun y54 h => ?_) (fun j54 hj54 h => ?_)
    · refine q_aload_n C dX6_relation_54 rfl 0 rfl ?_
      refine q_callVv C (rm := rmX6_next) (As := []) (rest := []) (id := 0) (ci := 6) (fun r9 σ9 h9 => kX6_next l D ad cy X A zs y54 r9 σ9 h9) gX6_relation_X6_next rfl rfl rfl hyX6_next ⟨Nat.le_of_ble_eq_true rfl, Nat.le_of_ble_eq_true rfl⟩ (by decide) (ceM_0 ad cy _ _ _) rfl rfl rfl (Nat.le_of_ble_eq_true rfl) dX6_relation_55 ⟨Nat.zero_le _, Nat.zero_le _⟩ h (fun r55 σ55 h => ?_)
      refine q_aload_n C dX6_relation_58 rfl 0 rfl ?_
      refine q_get C (Cn := RX6) (T := TX6) (Nf := 60) (ci := 6) (id := 0) (k := 30) (v := .int (σ55.1 0 30)) nX6_relation_X6 (by decide) (ceM_0 ad cy _ _ _) rfl (by decide) rfl hX6_relation_224 dX6_relation_59 ?_
      refine q_istoreL C dX6_relation_62 (by decide) h (lw := fun x62 => [(0, .ref (ad 0)), (1, .int a1), (2, .int x4), (3, .int y32), (4, .int x62)]) (fun _ => rfl) (fun x62 h => ?_)
      refine q_aload_n C dX6_relation_64 rfl 0 rfl ?_
      refine q_callVv C (rm := rmX6_expression) (As := []) (rest := []) (id := 0) (ci := 6) (fun r9 σ9 h9 => kX6_expression l D ad cy X A zs σ55 r9 σ9 h9) gX6_relation_X6_expression rfl rfl rfl hyX6_expression ⟨Nat.le_of_ble_eq_true rfl, Nat.le_of_ble_eq_true rfl⟩ (by decide) (ceM_0 ad cy _ _ _) rfl rfl rfl (Nat.le_of_ble_eq_true rfl) dX6_relation_65 ⟨Nat.zero_le _, Nat.zero_le _⟩ h (fun r65 σ65 h => ?_)
      refine q_aload_n C dX6_relation_68 rfl 0 rfl ?_
      refine q_get C (Cn := RX6) (T := TX6) (Nf := 60) (ci := 6) (id := 0) (k := 13) (v := .int (σ65.1 0 13)) nX6_relation_X6 (by decide) (ceM_0 ad cy _ _ _) rfl (by decide) rfl hX6_relation_188 dX6_relation_69 ?_
      refine q_if_le C (tgt := 76) dX6_relation_72 (by decide) h (fun h => ?_) (fun h => ?_)
      · refine q_sipush C (v := 200) dX6_relation_76 (by decide) ?_
        refine q_aload_n C dX6_relation_79 rfl 0 rfl ?_
        refine q_get C (Cn := RX6) (T := TX6) (Nf := 60) (ci := 6) (id := 0) (k := 19) (v := .int (σ65.1 0 19)) nX6_relation_X6 (by decide) (ceM_0 ad cy _ _ _) rfl (by decide) rfl hX6_relation_221 dX6_relation_80 ?_
        refine q_imul C dX6_relation_83 ?_
        refine q_aload_n C dX6_relation_84 rfl 0 rfl ?_
        refine q_get C (Cn := RX6) (T := TX6) (Nf := 60) (ci := 6) (id := 0) (k := 24) (v := .ref (ad 13)) nX6_relation_X6 (by decide) (ceM_0 ad cy _ _ _) rfl (by decide) rfl hX6_relation_55 dX6_relation_85 ?_
        refine q_aload_n C dX6_relation_88 rfl 0 rfl ?_
        refine q_get C (Cn := RX6) (T := TX6) (Nf := 60) (ci := 6) (id := 0) (k := 19) (v := .int (σ65.1 0 19)) nX6_relation_X6 (by decide) (ceM_0 ad cy _ _ _) rfl (by decide) rfl hX6_relation_221 dX6_relation_89 ?_
        refine q_iald C (id := 13) (by decide) (ceM_13 ad cy _ _ _) dX6_relation_92 h (fun h => ?_)
        refine q_iadd C dX6_relation_93 ?_
        refine q_istoreL C dX6_relation_94 (by decide) h (lw := fun x94 => [(0, .ref (ad 0)), (1, .int a1), (2, .int x4), (3, .int y32), (4, .int x62), (5, .int x94)]) (fun _ => rfl) (fun x94 h => ?_)
        refine q_aload_n C dX6_relation_96 rfl 0 rfl ?_
        refine q_get C (Cn := RX6) (T := TX6) (Nf := 60) (ci := 6) (id := 0) (k := 25) (v := .ref (ad 14)) nX6_relation_X6 (by decide) (ceM_0 ad cy _ _ _) rfl (by decide) rfl hX6_relation_58 dX6_relation_97 ?_
        refine q_iload C dX6_relation_100 5 rfl ?_
        refine q_iload_n C dX6_relation_102 rfl 3 rfl ?_
        refine q_iast C (id := 14) (by decide) (fun f g => ceM_14 ad cy _ f g) dX6_relation_103 h (fun σ103 h => ?_)
        refine q_aload_n C dX6_relation_104 rfl 0 rfl ?_
        refine q_get C (Cn := RX6) (T := TX6) (Nf := 60) (ci := 6) (id := 0) (k := 26) (v := .ref (ad 15)) nX6_relation_X6 (by decide) (ceM_0 ad cy _ _ _) rfl (by decide) rfl hX6_relation_61 dX6_relation_105 ?_
        refine q_iload C dX6_relation_108 5 rfl ?_
        refine q_iload_n C dX6_relation_110 rfl 2 rfl ?_
        refine q_iast C (id := 15) (by decide) (fun f g => ceM_15 ad cy _ f g) dX6_relation_111 h (fun σ111 h => ?_)
        refine q_aload_n C dX6_relation_112 rfl 0 rfl ?_
        refine q_get C (Cn := RX6) (T := TX6) (Nf := 60) (ci := 6) (id := 0) (k := 27) (v := .ref (ad 16)) nX6_relation_X6 (by decide) (ceM_0 ad cy _ _ _) rfl (by decide) rfl hX6_relation_64 dX6_relation_113 ?_
        refine q_iload C dX6_relation_116 5 rfl ?_
        refine q_iload C dX6_relation_118 4 rfl ?_
        refine q_iast C (id := 16) (by decide) (fun f g => ceM_16 ad cy _ f g) dX6_relation_120 h (fun σ120 h => ?_)
        refine q_aload_n C dX6_relation_121 rfl 0 rfl ?_
        refine q_get C (Cn := RX6) (T := TX6) (Nf := 60) (ci := 6) (id := 0) (k := 28) (v := .ref (ad 17)) nX6_relation_X6 (by decide) (ceM_0 ad cy _ _ _) rfl (by decide) rfl hX6_relation_67 dX6_relation_122 ?_
        refine q_iload C dX6_relation_125 5 rfl ?_
        refine q_aload_n C dX6_relation_127 rfl 0 rfl ?_
        refine q_get C (Cn := RX6) (T := TX6) (Nf := 60) (ci := 6) (id := 0) (k := 30) (v := .int (σ120.1 0 30)) nX6_relation_X6 (by decide) (ceM_0 ad cy _ _ _) rfl (by decide) rfl hX6_relation_224 dX6_relation_128 ?_
        refine q_iast C (id := 17) (by decide) (fun f g => ceM_17 ad cy _ f g) dX6_relation_131 h (fun σ131 h => ?_)
        refine q_aload_n C dX6_relation_132 rfl 0 rfl ?_
        refine q_get C (Cn := RX6) (T := TX6) (Nf := 60) (ci := 6) (id := 0) (k := 29) (v := .ref (ad 18)) nX6_relation_X6 (by decide) (ceM_0 ad cy _ _ _) rfl (by decide) rfl hX6_relation_70 dX6_relation_133 ?_
        refine q_iload C dX6_relation_136 5 rfl ?_
        refine q_iload_n C dX6_relation_138 rfl 1 rfl ?_
        refine q_zast C (id := 18) (by decide) (fun f g => ceM_18 ad cy _ f g) dX6_relation_139 h (fun σ139 h => ?_)
        refine q_aload_n C dX6_relation_140 rfl 0 rfl ?_
        refine q_get C (Cn := RX6) (T := TX6) (Nf := 60) (ci := 6) (id := 0) (k := 24) (v := .ref (ad 13)) nX6_relation_X6 (by decide) (ceM_0 ad cy _ _ _) rfl (by decide) rfl hX6_relation_55 dX6_relation_141 ?_
        refine q_aload_n C dX6_relation_144 rfl 0 rfl ?_
        refine q_get C (Cn := RX6) (T := TX6) (Nf := 60) (ci := 6) (id := 0) (k := 19) (v := .int (σ139.1 0 19)) nX6_relation_X6 (by decide) (ceM_0 ad cy _ _ _) rfl (by decide) rfl hX6_relation_221 dX6_relation_145 ?_
        refine q_dup2 C dX6_relation_148 rfl rfl ?_
        refine q_iald C (id := 13) (by decide) (ceM_13 ad cy _ _ _) dX6_relation_149 h (fun h => ?_)
        refine q_iconst C (v := 1) dX6_relation_150 (by decide) ?_
        refine q_iadd C dX6_relation_151 ?_
        refine q_iast C (id := 13) (by decide) (fun f g => ceM_13 ad cy _ f g) dX6_relation_152 h (fun σ152 h => ?_)
        exact q_vret C (r0 := r0) rfl dX6_relation_153 h
      · exact q_vret C (r0 := r0) rfl dX6_relation_75 h
    refine q_if_ne C (tgt := 54) dX6_relation_37 (by decide) h (fun h => ?_) (fun h => ?_)
    · exact q_sub [0, 1, 2, 3] rfl (hj54 σ6 h)
    · refine q_iload_n C dX6_relation_40 rfl 3 rfl ?_
      refine q_join (G := fun (y49 : Unit) => qVv ceM 42 ad cy X A D p l e (headSpec wsX6_relation rmX6_relation).room s m args below meth c 6 r0 σ0 49 [(0, .ref (ad 0)), (1, .int a1), (2, .int x4), (3, .int y32)] [] σ6) h (fun y49 h => ?_) (fun j49 hj49 h => ?_)
      · refine q_aload_n C dX6_relation_49 rfl 0 rfl ?_
        refine q_iconst C (v := 1) dX6_relation_50 (by decide) ?_
        refine q_callVv C (rm := rmX6_fail) (As := [.int (1 : Int32)]) (rest := []) (id := 0) (ci := 6) (fun r9 σ9 h9 => kX6_fail l D ad cy X A zs σ6 (1 : Int32) r9 σ9 h9) gX6_relation_X6_fail rfl rfl rfl hyX6_fail ⟨Nat.le_of_ble_eq_true rfl, Nat.le_of_ble_eq_true rfl⟩ (by decide) (ceM_0 ad cy _ _ _) rfl rfl rfl (Nat.le_of_ble_eq_true rfl) dX6_relation_51 ⟨Nat.zero_le _, Nat.zero_le _⟩ h (fun r51 σ51 h => ?_)
        exact q_sub [0, 1, 2, 3] rfl (hj54 σ51 h)
      refine q_if_lt C (tgt := 49) dX6_relation_41 (by decide) h (fun h => ?_) (fun h => ?_)
      · exact q_sub [0, 1, 2, 3] rfl (hj49 () h)
      · refine q_iload_n C dX6_relation_44 rfl 3 rfl ?_
        refine q_iconst C (v := 3) dX6_relation_45 (by decide) ?_
        refine q_icmp_le C (tgt := 54) dX6_relation_46 (by decide) h (fun h => ?_) (fun h => ?_)
        · exact q_sub [0, 1, 2, 3] rfl (hj54 σ6 h)
        · exact q_sub [0, 1, 2, 3] rfl (hj49 () h)
  refine q_if_le C (tgt := 20) dX6_relation_13 (by decide) h (fun h => ?_) (fun h => ?_)
  · refine q_aload_n C dX6_relation_20 rfl 0 rfl ?_
    refine q_get C (Cn := RX6) (T := TX6) (Nf := 60) (ci := 6) (id := 0) (k := 5) (v := .ref (ad 3)) nX6_relation_X6 (by decide) (ceM_0 ad cy _ _ _) rfl (by decide) rfl hX6_relation_20 dX6_relation_21 ?_
    refine q_aload_n C dX6_relation_24 rfl 0 rfl ?_
    refine q_get C (Cn := RX6) (T := TX6) (Nf := 60) (ci := 6) (id := 0) (k := 11) (v := .int (σ6.1 0 11)) nX6_relation_X6 (by decide) (ceM_0 ad cy _ _ _) rfl (by decide) rfl hX6_relation_191 dX6_relation_25 ?_
    refine q_iald C (id := 3) (by decide) (ceM_3 ad cy _ _ _) dX6_relation_28 h (fun h => ?_)
    refine q_bipush C (v := 11) dX6_relation_29 (by decide) ?_
    refine q_isub C dX6_relation_31 ?_
    exact q_sub [0, 1, 2] rfl (hj32 ((σ6.1 3 (σ6.1 0 11).toNatClampNeg) - (11 : Int32)) h)
  · refine q_iconst C (v := 0) dX6_relation_16 (by decide) ?_
    refine q_goto C (tgt := 32) dX6_relation_17 (by decide) ?_
    exact q_sub [0, 1, 2] rfl (hj32 (0 : Int32) h)
abbrev rmX6_tellRule : Room := { frames := 4, cells := 0, slots := 0, locals := 93 }
theorem hyX6_tellRule : yX6_tellRule.cls = RX6 ∧ yX6_tellRule.cls ≠ "java/lang/invoke/MethodHandle" ∧ yX6_tellRule.cls ≠ "java/lang/invoke/VarHandle" ∧ (parseMethodDescriptor yX6_tellRule.desc).map (fun d => d.parameters.length) = some 0 := by decide +kernel
theorem nX6_tellRule_X6 : ∀ w ∈ u_ws RX6 TX6 60, w ∈ wsX6_tellRule := fun w h => List.mem_cons_of_mem _ (List.mem_append_right _ h)
theorem hX6_tellRule_43 : Cond.fieldLink RX6 43 (TX6 20).1 (TX6 20).2.1 (TX6 20).2.2.1 ∈ wsX6_tellRule := by decide +kernel
theorem hX6_tellRule_221 : Cond.fieldLink RX6 221 (TX6 19).1 (TX6 19).2.1 (TX6 19).2.2.1 ∈ wsX6_tellRule := by decide +kernel
theorem hX6_tellRule_188 : Cond.fieldLink RX6 188 (TX6 13).1 (TX6 13).2.1 (TX6 13).2.2.1 ∈ wsX6_tellRule := by decide +kernel
theorem hX6_tellRule_46 : Cond.fieldLink RX6 46 (TX6 21).1 (TX6 21).2.1 (TX6 21).2.2.1 ∈ wsX6_tellRule := by decide +kernel
theorem hX6_tellRule_20 : Cond.fieldLink RX6 20 (TX6 5).1 (TX6 5).2.1 (TX6 5).2.2.1 ∈ wsX6_tellRule := by decide +kernel
theorem hX6_tellRule_191 : Cond.fieldLink RX6 191 (TX6 11).1 (TX6 11).2.1 (TX6 11).2.2.1 ∈ wsX6_tellRule := by decide +kernel
theorem hX6_tellRule_49 : Cond.fieldLink RX6 49 (TX6 22).1 (TX6 22).2.1 (TX6 22).2.2.1 ∈ wsX6_tellRule := by decide +kernel
theorem hX6_tellRule_55 : Cond.fieldLink RX6 55 (TX6 24).1 (TX6 24).2.1 (TX6 24).2.2.1 ∈ wsX6_tellRule := by decide +kernel
theorem hX6_tellRule_52 : Cond.fieldLink RX6 52 (TX6 23).1 (TX6 23).2.1 (TX6 23).2.2.1 ∈ wsX6_tellRule := by decide +kernel
def fX6_tellRule_L : Nat → Int32 → Int32 → Int32 → St → Option (Int32 × St)
  | 0, _, _, _, _ => none
  | n + 1, v1, v2, v3, σ => qlet (fun (y180 : Unit) => (qcall (fX6_must σ (4 : Int32)) (fun _ σ182 => if (σ182.1 0 13) ≤ (0 : Int32) then (qix (σ182.1 0 19) 12 (qix v1 144 (qlet (sI σ182 12 v1.toNatClampNeg (σ182.1 13 (σ182.1 0 19).toNatClampNeg)) (fun σ207 => qix (σ207.1 0 19) 12 (qix (σ207.1 0 19) 12 (qlet (sI σ207 9 (σ207.1 0 19).toNatClampNeg ((σ207.1 9 (σ207.1 0 19).toNatClampNeg) + (1 : Int32))) (fun σ220 => some ((0 : Int32), σ220)))))))) else (some ((0 : Int32), σ182))))) (fun j180 => (if v3 = (0 : Int32) then (j180 ()) else (if (σ.1 0 13) = (0 : Int32) then (qcall (fX6_relation σ v2) (fun _ σ140 => qcall (fX6_is σ140 (24 : Int32)) (fun r146 σ146 => qlet (fun (y168 : Int32 × St) => (qlet y168.1 (fun x168 => if x168 = (0 : Int32) then (fX6_tellRule_L n v1 r146 x168 y168.2) else (qcall (fX6_next y168.2) (fun _ σ174 => fX6_tellRule_L n v1 r146 x168 σ174))))) (fun j168 => (qlet (fun (y163 : St) => (j168 ((1 : Int32), y163))) (fun j163 => (if r146 = (0 : Int32) then (qcall (fX6_is σ146 (25 : Int32)) (fun r157 σ157 => if r157 = (0 : Int32) then (j168 ((0 : Int32), σ157)) else (j163 σ157))) else (j163 σ146)))))))) else (j180 ()))))
def fX6_tellRule (σ : St) : Option (Int32 × St) := qcall (fX6_is σ (20 : Int32)) (fun r3 σ3 => qlet (fun (y54 : St) => (if (y54.1 0 13) ≤ (0 : Int32) then (qix (y54.1 0 19) 12 (qlet (((12 : Int32) * (y54.1 0 19)) + (y54.1 9 (y54.1 0 19).toNatClampNeg)) (fun x79 => qix (y54.1 0 11) 403 (qix x79 144 (qlet (sI y54 10 x79.toNatClampNeg ((y54.1 3 (y54.1 0 11).toNatClampNeg) - (20 : Int32))) (fun σ97 => qcall (fX6_next σ97) (fun _ σ99 => qcall (fX6_must σ99 (23 : Int32)) (fun _ σ105 => qix (σ105.1 0 19) 12 (qix x79 144 (qlet (sI σ105 11 x79.toNatClampNeg (σ105.1 13 (σ105.1 0 19).toNatClampNeg)) (fun σ122 => fX6_tellRule_L 100000 x79 (1 : Int32) (1 : Int32) σ122))))))))))) else (some ((0 : Int32), y54)))) (fun j54 => (qlet (fun (y35 : St) => (qix (y35.1 0 19) 12 (if (y35.1 9 (y35.1 0 19).toNatClampNeg) = (12 : Int32) then (qcall (fX6_fail y35 (2 : Int32)) (fun _ σ51 => j54 σ51)) else (j54 y35)))) (fun j35 => (if r3 = (0 : Int32) then (qcall (fX6_is σ3 (21 : Int32)) (fun r12 σ12 => if r12 = (0 : Int32) then (qcall (fX6_is σ12 (22 : Int32)) (fun r21 σ21 => if r21 = (0 : Int32) then (qcall (fX6_fail σ21 (1 : Int32)) (fun _ σ29 => j54 σ29)) else (j35 σ21))) else (j35 σ12))) else (j35 σ3))))))
set_option maxHeartbeats 4000000 in
set_option maxRecDepth 100000 in
theorem kX6_tellRule_L {ad : Nat → Nat} {cy : Nat → ClassId} {X : va_W} {A : Nat → Prop} {D : va_G} {zs : Nat × Nat × Option Nat} {p : Program} {l : Launch} {e : Env} {s : State} {m : MethodId} {args : Array Value} {below : List Frame} {meth : Method} {c : Code} (C : qC ceM 42 ad cy X A D zs cX6_tellRule 4 RX6 wsX6_tellRule p s m args meth c none) (r0 : Int32) (σ0 : St) (n : Nat) : (∀ (v1 : Int32) (v2 : Int32) (v3 : Int32) (σ : St), fX6_tellRule_L n v1 v2 v3 σ = some (r0, σ0) → qVv ceM 42 ad cy X A D p l e (headSpec wsX6_tellRule rmX6_tellRule).room s m args below meth c 4 r0 σ0 127 [(0, .ref (ad 0)), (1, .int v1), (2, .int v2), (3, .int v3)] [] σ) := by
  induction n with
  | zero =>
    intro v1 v2 v3 σ h; cases h
  | succ n ih =>
    intro v1 v2 v3 σ h
    rw [fX6_tellRule_L] at h
    refine q_iload_n C dX6_tellRule_127 rfl 3 rfl ?_
    refine q_join (G := fun (y180 : Unit) => qVv ceM 42 ad cy X A D p l e (headSpec wsX6_tellRule rmX6_tellRule).room s m args below meth c 4 r0 σ0 180 [(0, .ref (ad 0)), (1, .int v1)] [] σ) h (fun y180 h => ?_) (fun j180 hj180 h => ?_)
    · refine q_aload_n C dX6_tellRule_180 rfl 0 rfl ?_
      refine q_iconst C (v := 4) dX6_tellRule_181 (by decide) ?_
      refine q_callVv C (rm := rmX6_must) (As := [.int (4 : Int32)]) (rest := []) (id := 0) (ci := 6) (fun r9 σ9 h9 => kX6_must l D ad cy X A zs σ (4 : Int32) r9 σ9 h9) gX6_tellRule_X6_must rfl rfl rfl hyX6_must ⟨Nat.le_of_ble_eq_true rfl, Nat.le_of_ble_eq_true rfl⟩ (by decide) (ceM_0 ad cy _ _ _) rfl rfl rfl (Nat.le_of_ble_eq_true rfl) dX6_tellRule_182 ⟨Nat.zero_le _, Nat.zero_le _⟩ h (fun r182 σ182 h => ?_)
      refine q_aload_n C dX6_tellRule_185 rfl 0 rfl ?_
      refine q_get C (Cn := RX6) (T := TX6) (Nf := 60) (ci := 6) (id := 0) (k := 13) (v := .int (σ182.1 0 13)) nX6_tellRule_X6 (by decide) (ceM_0 ad cy _ _ _) rfl (by decide) rfl hX6_tellRule_188 dX6_tellRule_186 ?_
      refine q_if_le C (tgt := 193) dX6_tellRule_189 (by decide) h (fun h => ?_) (fun h => ?_)
      · refine q_aload_n C dX6_tellRule_193 rfl 0 rfl ?_
        refine q_get C (Cn := RX6) (T := TX6) (Nf := 60) (ci := 6) (id := 0) (k := 23) (v := .ref (ad 12)) nX6_tellRule_X6 (by decide) (ceM_0 ad cy _ _ _) rfl (by decide) rfl hX6_tellRule_52 dX6_tellRule_194 ?_
        refine q_iload_n C dX6_tellRule_197 rfl 1 rfl ?_
        refine q_aload_n C dX6_tellRule_198 rfl 0 rfl ?_
        refine q_get C (Cn := RX6) (T := TX6) (Nf := 60) (ci := 6) (id := 0) (k := 24) (v := .ref (ad 13)) nX6_tellRule_X6 (by decide) (ceM_0 ad cy _ _ _) rfl (by decide) rfl hX6_tellRule_55 dX6_tellRule_199 ?_
        refine q_aload_n C dX6_tellRule_202 rfl 0 rfl ?_
        refine q_get C (Cn := RX6) (T := TX6) (Nf := 60) (ci := 6) (id := 0) (k := 19) (v := .int (σ182.1 0 19)) nX6_tellRule_X6 (by decide) (ceM_0 ad cy _ _ _) rfl (by decide) rfl hX6_tellRule_221 dX6_tellRule_203 ?_
        refine q_iald C (id := 13) (by decide) (ceM_13 ad cy _ _ _) dX6_tellRule_206 h (fun h => ?_)
        refine q_iast C (id := 12) (by decide) (fun f g => ceM_12 ad cy _ f g) dX6_tellRule_207 h (fun σ207 h => ?_)
        refine q_aload_n C dX6_tellRule_208 rfl 0 rfl ?_
        refine q_get C (Cn := RX6) (T := TX6) (Nf := 60) (ci := 6) (id := 0) (k := 20) (v := .ref (ad 9)) nX6_tellRule_X6 (by decide) (ceM_0 ad cy _ _ _) rfl (by decide) rfl hX6_tellRule_43 dX6_tellRule_209 ?_
        refine q_aload_n C dX6_tellRule_212 rfl 0 rfl ?_
        refine q_get C (Cn := RX6) (T := TX6) (Nf := 60) (ci := 6) (id := 0) (k := 19) (v := .int (σ207.1 0 19)) nX6_tellRule_X6 (by decide) (ceM_0 ad cy _ _ _) rfl (by decide) rfl hX6_tellRule_221 dX6_tellRule_213 ?_
        refine q_dup2 C dX6_tellRule_216 rfl rfl ?_
        refine q_iald C (id := 9) (by decide) (ceM_9 ad cy _ _ _) dX6_tellRule_217 h (fun h => ?_)
        refine q_iconst C (v := 1) dX6_tellRule_218 (by decide) ?_
        refine q_iadd C dX6_tellRule_219 ?_
        refine q_iast C (id := 9) (by decide) (fun f g => ceM_9 ad cy _ f g) dX6_tellRule_220 h (fun σ220 h => ?_)
        exact q_vret C (r0 := r0) rfl dX6_tellRule_221 h
      · exact q_vret C (r0 := r0) rfl dX6_tellRule_192 h
    refine q_if_eq C (tgt := 180) dX6_tellRule_128 (by decide) h (fun h => ?_) (fun h => ?_)
    · exact q_sub [0, 1] rfl (hj180 () h)
    · refine q_aload_n C dX6_tellRule_131 rfl 0 rfl ?_
      refine q_get C (Cn := RX6) (T := TX6) (Nf := 60) (ci := 6) (id := 0) (k := 13) (v := .int (σ.1 0 13)) nX6_tellRule_X6 (by decide) (ceM_0 ad cy _ _ _) rfl (by decide) rfl hX6_tellRule_188 dX6_tellRule_132 ?_
      refine q_if_ne C (tgt := 180) dX6_tellRule_135 (by decide) h (fun h => ?_) (fun h => ?_)
      · exact q_sub [0, 1] rfl (hj180 () h)
      · refine q_aload_n C dX6_tellRule_138 rfl 0 rfl ?_
        refine q_iload_n C dX6_tellRule_139 rfl 2 rfl ?_
        refine q_callVv C (rm := rmX6_relation) (As := [.int v2]) (rest := []) (id := 0) (ci := 6) (fun r9 σ9 h9 => kX6_relation l D ad cy X A zs σ v2 r9 σ9 h9) gX6_tellRule_X6_relation rfl rfl rfl hyX6_relation ⟨Nat.le_of_ble_eq_true rfl, Nat.le_of_ble_eq_true rfl⟩ (by decide) (ceM_0 ad cy _ _ _) rfl rfl rfl (Nat.le_of_ble_eq_true rfl) dX6_tellRule_140 ⟨Nat.zero_le _, Nat.zero_le _⟩ h (fun r140 σ140 h => ?_)
        refine q_aload_n C dX6_tellRule_143 rfl 0 rfl ?_
        refine q_bipush C (v := 24) dX6_tellRule_144 (by decide) ?_
        refine q_callVi C (rm := rmX6_is) (As := [.int (24 : Int32)]) (rest := []) (id := 0) (ci := 6) (fun r9 σ9 h9 => kX6_is l D ad cy X A zs σ140 (24 : Int32) r9 σ9 h9) gX6_tellRule_X6_is rfl rfl rfl hyX6_is ⟨Nat.le_of_ble_eq_true rfl, Nat.le_of_ble_eq_true rfl⟩ (by decide) (ceM_0 ad cy _ _ _) rfl rfl rfl (Nat.le_of_ble_eq_true rfl) dX6_tellRule_146 ⟨Nat.zero_le _, Nat.zero_le _⟩ h (fun r146 σ146 h => ?_)
        refine q_istore_n C dX6_tellRule_149 rfl (by decide) (lv' := [(0, .ref (ad 0)), (1, .int v1), (2, .int r146), (3, .int v3)]) rfl ?_
        refine q_iload_n C dX6_tellRule_150 rfl 2 rfl ?_
        refine q_join (G := fun (y168 : Int32 × St) => qVv ceM 42 ad cy X A D p l e (headSpec wsX6_tellRule rmX6_tellRule).room s m args below meth c 4 r0 σ0 168 [(0, .ref (ad 0)), (1, .int v1), (2, .int r146)] [.int y168.1] y168.2) h (fun y168 h => ?_) (fun j168 hj168 h => ?_)
        · refine q_istore_nL C dX6_tellRule_168 rfl (by decide) h (lw := fun x168 => [(0, .ref (ad 0)), (1, .int v1), (2, .int r146), (3, .int x168)]) (fun _ => rfl) (fun x168 h => ?_)
          refine q_iload_n C dX6_tellRule_169 rfl 3 rfl ?_
          refine q_if_eq C (tgt := 127) dX6_tellRule_170 (by decide) h (fun h => ?_) (fun h => ?_)
          · exact q_sub [0, 1, 2, 3] rfl (ih v1 r146 x168 y168.2 h)
          · refine q_aload_n C dX6_tellRule_173 rfl 0 rfl ?_
            refine q_callVv C (rm := rmX6_next) (As := []) (rest := []) (id := 0) (ci := 6) (fun r9 σ9 h9 => kX6_next l D ad cy X A zs y168.2 r9 σ9 h9) gX6_tellRule_X6_next rfl rfl rfl hyX6_next ⟨Nat.le_of_ble_eq_true rfl, Nat.le_of_ble_eq_true rfl⟩ (by decide) (ceM_0 ad cy _ _ _) rfl rfl rfl (Nat.le_of_ble_eq_true rfl) dX6_tellRule_174 ⟨Nat.zero_le _, Nat.zero_le _⟩ h (fun r174 σ174 h => ?_)
            refine q_goto C (tgt := 127) dX6_tellRule_177 (by decide) ?_
            exact q_sub [0, 1, 2, 3] rfl (ih v1 r146 x168 σ174 h)
        refine q_join (G := fun (y163 : St) => qVv ceM 42 ad cy X A D p l e (headSpec wsX6_tellRule rmX6_tellRule).room s m args below meth c 4 r0 σ0 163 [(0, .ref (ad 0)), (1, .int v1), (2, .int r146)] [] y163) h (fun y163 h => ?_) (fun j163 hj163 h => ?_)
        · refine q_iconst C (v := 1) dX6_tellRule_163 (by decide) ?_
          refine q_goto C (tgt := 168) dX6_tellRule_164 (by decide) ?_
          exact q_sub [0, 1, 2] rfl (hj168 ((1 : Int32), y163) h)
        refine q_if_ne C (tgt := 163) dX6_tellRule_151 (by decide) h (fun h => ?_) (fun h => ?_)
        · exact q_sub [0, 1, 2] rfl (hj163 σ146 h)
        · refine q_aload_n C dX6_tellRule_154 rfl 0 rfl ?_
          refine q_bipush C (v := 25) dX6_tellRule_155 (by decide) ?_
          refine q_callVi C (rm := rmX6_is) (As := [.int (25 : Int32)]) (rest := []) (id := 0) (ci := 6) (fun r9 σ9 h9 => kX6_is l D ad cy X A zs σ146 (25 : Int32) r9 σ9 h9) gX6_tellRule_X6_is rfl rfl rfl hyX6_is ⟨Nat.le_of_ble_eq_true rfl, Nat.le_of_ble_eq_true rfl⟩ (by decide) (ceM_0 ad cy _ _ _) rfl rfl rfl (Nat.le_of_ble_eq_true rfl) dX6_tellRule_157 ⟨Nat.zero_le _, Nat.zero_le _⟩ h (fun r157 σ157 h => ?_)
          refine q_if_eq C (tgt := 167) dX6_tellRule_160 (by decide) h (fun h => ?_) (fun h => ?_)
          · refine q_iconst C (v := 0) dX6_tellRule_167 (by decide) ?_
            exact q_sub [0, 1, 2] rfl (hj168 ((0 : Int32), σ157) h)
          · exact q_sub [0, 1, 2] rfl (hj163 σ157 h)
set_option maxHeartbeats 4000000 in
set_option maxRecDepth 100000 in
theorem kX6_tellRule (l : Launch) (D : va_G) (ad : Nat → Nat) (cy : Nat → ClassId) (X : va_W) (A : Nat → Prop) (zs : Nat × Nat × Option Nat) (σ : St) (r0 : Int32) (σ0 : St) (h : fX6_tellRule σ = some (r0, σ0)) : Met l yX6_tellRule wsX6_tellRule rmX6_tellRule (qPc ceM 42 ad cy X A D zs [.ref (ad 0)] σ) (qQv ceM 42 ad cy X A D σ0) 0 0 A := by
  refine Met.ofW (cc := cX6_tellRule) (maxL := 4) (ret := none) (by decide) rfl ?_
  intro p e s m args below meth c s₁ B hml hv
  obtain ⟨ha, hP, hK, hE, hD⟩ := hv
  have C : qC ceM 42 ad cy X A D zs cX6_tellRule 4 RX6 wsX6_tellRule p s m args meth c none := ⟨B.exec, B.bytes, hml, findClass_of_methodNamed B.named, atoms_spec (ws := wsX6_tellRule) B.pre, hK, hD, B.returns, B.notSynchronized, hE⟩
  rw [show entryFrame m args 4 = entryFrame m ([.ref (ad 0)] : List Value).toArray 4 by rw [ha]]
  refine q_entry (A := A) (Nat.le_of_ble_eq_true rfl) hP (lv := [(0, .ref (ad 0))]) rfl ?_
  unfold fX6_tellRule at h
  refine q_aload_n C dX6_tellRule_0 rfl 0 rfl ?_
  refine q_bipush C (v := 20) dX6_tellRule_1 (by decide) ?_
  refine q_callVi C (rm := rmX6_is) (As := [.int (20 : Int32)]) (rest := []) (id := 0) (ci := 6) (fun r9 σ9 h9 => kX6_is l D ad cy X A zs σ (20 : Int32) r9 σ9 h9) gX6_tellRule_X6_is rfl rfl rfl hyX6_is ⟨Nat.le_of_ble_eq_true rfl, Nat.le_of_ble_eq_true rfl⟩ (by decide) (ceM_0 ad cy _ _ _) rfl rfl rfl (Nat.le_of_ble_eq_true rfl) dX6_tellRule_3 ⟨Nat.zero_le _, Nat.zero_le _⟩ h (fun r3 σ3 h => ?_)
  refine q_join (G := fun (y54 : St) => qVv ceM 42 ad cy X A D p l e (headSpec wsX6_tellRule rmX6_tellRule).room s m args below meth c 4 r0 σ0 54 [(0, .ref (ad 0))] [] y54) h (fun y54 h => ?_) (fun j54 hj54 h => ?_)
  · refine q_aload_n C dX6_tellRule_54 rfl 0 rfl ?_
    refine q_get C (Cn := RX6) (T := TX6) (Nf := 60) (ci := 6) (id := 0) (k := 13) (v := .int (y54.1 0 13)) nX6_tellRule_X6 (by decide) (ceM_0 ad cy _ _ _) rfl (by decide) rfl hX6_tellRule_188 dX6_tellRule_55 ?_
    refine q_if_le C (tgt := 62) dX6_tellRule_58 (by decide) h (fun h => ?_) (fun h => ?_)
    · refine q_bipush C (v := 12) dX6_tellRule_62 (by decide) ?_
      refine q_aload_n C dX6_tellRule_64 rfl 0 rfl ?_
      refine q_get C (Cn := RX6) (T := TX6) (Nf := 60) (ci := 6) (id := 0) (k := 19) (v := .int (y54.1 0 19)) nX6_tellRule_X6 (by decide) (ceM_0 ad cy _ _ _) rfl (by decide) rfl hX6_tellRule_221 dX6_tellRule_65 ?_
      refine q_imul C dX6_tellRule_68 ?_
      refine q_aload_n C dX6_tellRule_69 rfl 0 rfl ?_
      refine q_get C (Cn := RX6) (T := TX6) (Nf := 60) (ci := 6) (id := 0) (k := 20) (v := .ref (ad 9)) nX6_tellRule_X6 (by decide) (ceM_0 ad cy _ _ _) rfl (by decide) rfl hX6_tellRule_43 dX6_tellRule_70 ?_
      refine q_aload_n C dX6_tellRule_73 rfl 0 rfl ?_
      refine q_get C (Cn := RX6) (T := TX6) (Nf := 60) (ci := 6) (id := 0) (k := 19) (v := .int (y54.1 0 19)) nX6_tellRule_X6 (by decide) (ceM_0 ad cy _ _ _) rfl (by decide) rfl hX6_tellRule_221 dX6_tellRule_74 ?_
      refine q_iald C (id := 9) (by decide) (ceM_9 ad cy _ _ _) dX6_tellRule_77 h (fun h => ?_)
      refine q_iadd C dX6_tellRule_78 ?_
      refine q_istore_nL C dX6_tellRule_79 rfl (by decide) h (lw := fun x79 => [(0, .ref (ad 0)), (1, .int x79)]) (fun _ => rfl) (fun x79 h => ?_)
      refine q_aload_n C dX6_tellRule_80 rfl 0 rfl ?_
      refine q_get C (Cn := RX6) (T := TX6) (Nf := 60) (ci := 6) (id := 0) (k := 21) (v := .ref (ad 10)) nX6_tellRule_X6 (by decide) (ceM_0 ad cy _ _ _) rfl (by decide) rfl hX6_tellRule_46 dX6_tellRule_81 ?_
      refine q_iload_n C dX6_tellRule_84 rfl 1 rfl ?_
      refine q_aload_n C dX6_tellRule_85 rfl 0 rfl ?_
      refine q_get C (Cn := RX6) (T := TX6) (Nf := 60) (ci := 6) (id := 0) (k := 5) (v := .ref (ad 3)) nX6_tellRule_X6 (by decide) (ceM_0 ad cy _ _ _) rfl (by decide) rfl hX6_tellRule_20 dX6_tellRule_86 ?_
      refine q_aload_n C dX6_tellRule_89 rfl 0 rfl ?_
      refine q_get C (Cn := RX6) (T := TX6) (Nf := 60) (ci := 6) (id := 0) (k := 11) (v := .int (y54.1 0 11)) nX6_tellRule_X6 (by decide) (ceM_0 ad cy _ _ _) rfl (by decide) rfl hX6_tellRule_191 dX6_tellRule_90 ?_
      refine q_iald C (id := 3) (by decide) (ceM_3 ad cy _ _ _) dX6_tellRule_93 h (fun h => ?_)
      refine q_bipush C (v := 20) dX6_tellRule_94 (by decide) ?_
      refine q_isub C dX6_tellRule_96 ?_
      refine q_iast C (id := 10) (by decide) (fun f g => ceM_10 ad cy _ f g) dX6_tellRule_97 h (fun σ97 h => ?_)
      refine q_aload_n C dX6_tellRule_98 rfl 0 rfl ?_
      refine q_callVv C (rm := rmX6_next) (As := []) (rest := []) (id := 0) (ci := 6) (fun r9 σ9 h9 => kX6_next l D ad cy X A zs σ97 r9 σ9 h9) gX6_tellRule_X6_next rfl rfl rfl hyX6_next ⟨Nat.le_of_ble_eq_true rfl, Nat.le_of_ble_eq_true rfl⟩ (by decide) (ceM_0 ad cy _ _ _) rfl rfl rfl (Nat.le_of_ble_eq_true rfl) dX6_tellRule_99 ⟨Nat.zero_le _, Nat.zero_le _⟩ h (fun r99 σ99 h => ?_)
      refine q_aload_n C dX6_tellRule_102 rfl 0 rfl ?_
      refine q_bipush C (v := 23) dX6_tellRule_103 (by decide) ?_
      refine q_callVv C (rm := rmX6_must) (As := [.int (23 : Int32)]) (rest := []) (id := 0) (ci := 6) (fun r9 σ9 h9 => kX6_must l D ad cy X A zs σ99 (23 : Int32) r9 σ9 h9) gX6_tellRule_X6_must rfl rfl rfl hyX6_must ⟨Nat.le_of_ble_eq_true rfl, Nat.le_of_ble_eq_true rfl⟩ (by decide) (ceM_0 ad cy _ _ _) rfl rfl rfl (Nat.le_of_ble_eq_true rfl) dX6_tellRule_105 ⟨Nat.zero_le _, Nat.zero_le _⟩ h (fun r105 σ105 h => ?_)
      refine q_aload_n C dX6_tellRule_108 rfl 0 rfl ?_
      refine q_get C (Cn := RX6) (T := TX6) (Nf := 60) (ci := 6) (id := 0) (k := 22) (v := .ref (ad 11)) nX6_tellRule_X6 (by decide) (ceM_0 ad cy _ _ _) rfl (by decide) rfl hX6_tellRule_49 dX6_tellRule_109 ?_
      refine q_iload_n C dX6_tellRule_112 rfl 1 rfl ?_
      refine q_aload_n C dX6_tellRule_113 rfl 0 rfl ?_
      refine q_get C (Cn := RX6) (T := TX6) (Nf := 60) (ci := 6) (id := 0) (k := 24) (v := .ref (ad 13)) nX6_tellRule_X6 (by decide) (ceM_0 ad cy _ _ _) rfl (by decide) rfl hX6_tellRule_55 dX6_tellRule_114 ?_
      refine q_aload_n C dX6_tellRule_117 rfl 0 rfl ?_
      refine q_get C (Cn := RX6) (T := TX6) (Nf := 60) (ci := 6) (id := 0) (k := 19) (v := .int (σ105.1 0 19)) nX6_tellRule_X6 (by decide) (ceM_0 ad cy _ _ _) rfl (by decide) rfl hX6_tellRule_221 dX6_tellRule_118 ?_
      refine q_iald C (id := 13) (by decide) (ceM_13 ad cy _ _ _) dX6_tellRule_121 h (fun h => ?_)
      refine q_iast C (id := 11) (by decide) (fun f g => ceM_11 ad cy _ f g) dX6_tellRule_122 h (fun σ122 h => ?_)
      refine q_iconst C (v := 1) dX6_tellRule_123 (by decide) ?_
      refine q_istore_n C dX6_tellRule_124 rfl (by decide) (lv' := [(0, .ref (ad 0)), (1, .int x79), (2, .int (1 : Int32))]) rfl ?_
      refine q_iconst C (v := 1) dX6_tellRule_125 (by decide) ?_
      refine q_istore_n C dX6_tellRule_126 rfl (by decide) (lv' := [(0, .ref (ad 0)), (1, .int x79), (2, .int (1 : Int32)), (3, .int (1 : Int32))]) rfl ?_
      exact q_sub [0, 1, 2, 3] rfl ((kX6_tellRule_L C r0 σ0 100000) x79 (1 : Int32) (1 : Int32) σ122 h)
    · exact q_vret C (r0 := r0) rfl dX6_tellRule_61 h
  refine q_join (G := fun (y35 : St) => qVv ceM 42 ad cy X A D p l e (headSpec wsX6_tellRule rmX6_tellRule).room s m args below meth c 4 r0 σ0 35 [(0, .ref (ad 0))] [] y35) h (fun y35 h => ?_) (fun j35 hj35 h => ?_)
  · refine q_aload_n C dX6_tellRule_35 rfl 0 rfl ?_
    refine q_get C (Cn := RX6) (T := TX6) (Nf := 60) (ci := 6) (id := 0) (k := 20) (v := .ref (ad 9)) nX6_tellRule_X6 (by decide) (ceM_0 ad cy _ _ _) rfl (by decide) rfl hX6_tellRule_43 dX6_tellRule_36 ?_
    refine q_aload_n C dX6_tellRule_39 rfl 0 rfl ?_
    refine q_get C (Cn := RX6) (T := TX6) (Nf := 60) (ci := 6) (id := 0) (k := 19) (v := .int (y35.1 0 19)) nX6_tellRule_X6 (by decide) (ceM_0 ad cy _ _ _) rfl (by decide) rfl hX6_tellRule_221 dX6_tellRule_40 ?_
    refine q_iald C (id := 9) (by decide) (ceM_9 ad cy _ _ _) dX6_tellRule_43 h (fun h => ?_)
    refine q_bipush C (v := 12) dX6_tellRule_44 (by decide) ?_
    refine q_icmp_ne C (tgt := 54) dX6_tellRule_46 (by decide) h (fun h => ?_) (fun h => ?_)
    · exact q_sub [0] rfl (hj54 y35 h)
    · refine q_aload_n C dX6_tellRule_49 rfl 0 rfl ?_
      refine q_iconst C (v := 2) dX6_tellRule_50 (by decide) ?_
      refine q_callVv C (rm := rmX6_fail) (As := [.int (2 : Int32)]) (rest := []) (id := 0) (ci := 6) (fun r9 σ9 h9 => kX6_fail l D ad cy X A zs y35 (2 : Int32) r9 σ9 h9) gX6_tellRule_X6_fail rfl rfl rfl hyX6_fail ⟨Nat.le_of_ble_eq_true rfl, Nat.le_of_ble_eq_true rfl⟩ (by decide) (ceM_0 ad cy _ _ _) rfl rfl rfl (Nat.le_of_ble_eq_true rfl) dX6_tellRule_51 ⟨Nat.zero_le _, Nat.zero_le _⟩ h (fun r51 σ51 h => ?_)
      exact q_sub [0] rfl (hj54 σ51 h)
  refine q_if_ne C (tgt := 35) dX6_tellRule_6 (by decide) h (fun h => ?_) (fun h => ?_)
  · exact q_sub [0] rfl (hj35 σ3 h)
  · refine q_aload_n C dX6_tellRule_9 rfl 0 rfl ?_
    refine q_bipush C (v := 21) dX6_tellRule_10 (by decide) ?_
    refine q_callVi C (rm := rmX6_is) (As := [.int (21 : Int32)]) (rest := []) (id := 0) (ci := 6) (fun r9 σ9 h9 => kX6_is l D ad cy X A zs σ3 (21 : Int32) r9 σ9 h9) gX6_tellRule_X6_is rfl rfl rfl hyX6_is ⟨Nat.le_of_ble_eq_true rfl, Nat.le_of_ble_eq_true rfl⟩ (by decide) (ceM_0 ad cy _ _ _) rfl rfl rfl (Nat.le_of_ble_eq_true rfl) dX6_tellRule_12 ⟨Nat.zero_le _, Nat.zero_le _⟩ h (fun r12 σ12 h => ?_)
    refine q_if_ne C (tgt := 35) dX6_tellRule_15 (by decide) h (fun h => ?_) (fun h => ?_)
    · exact q_sub [0] rfl (hj35 σ12 h)
    · refine q_aload_n C dX6_tellRule_18 rfl 0 rfl ?_
      refine q_bipush C (v := 22) dX6_tellRule_19 (by decide) ?_
      refine q_callVi C (rm := rmX6_is) (As := [.int (22 : Int32)]) (rest := []) (id := 0) (ci := 6) (fun r9 σ9 h9 => kX6_is l D ad cy X A zs σ12 (22 : Int32) r9 σ9 h9) gX6_tellRule_X6_is rfl rfl rfl hyX6_is ⟨Nat.le_of_ble_eq_true rfl, Nat.le_of_ble_eq_true rfl⟩ (by decide) (ceM_0 ad cy _ _ _) rfl rfl rfl (Nat.le_of_ble_eq_true rfl) dX6_tellRule_21 ⟨Nat.zero_le _, Nat.zero_le _⟩ h (fun r21 σ21 h => ?_)
      refine q_if_ne C (tgt := 35) dX6_tellRule_24 (by decide) h (fun h => ?_) (fun h => ?_)
      · exact q_sub [0] rfl (hj35 σ21 h)
      · refine q_aload_n C dX6_tellRule_27 rfl 0 rfl ?_
        refine q_iconst C (v := 1) dX6_tellRule_28 (by decide) ?_
        refine q_callVv C (rm := rmX6_fail) (As := [.int (1 : Int32)]) (rest := []) (id := 0) (ci := 6) (fun r9 σ9 h9 => kX6_fail l D ad cy X A zs σ21 (1 : Int32) r9 σ9 h9) gX6_tellRule_X6_fail rfl rfl rfl hyX6_fail ⟨Nat.le_of_ble_eq_true rfl, Nat.le_of_ble_eq_true rfl⟩ (by decide) (ceM_0 ad cy _ _ _) rfl rfl rfl (Nat.le_of_ble_eq_true rfl) dX6_tellRule_29 ⟨Nat.zero_le _, Nat.zero_le _⟩ h (fun r29 σ29 h => ?_)
        refine q_goto C (tgt := 54) dX6_tellRule_32 (by decide) ?_
        exact q_sub [0] rfl (hj54 σ29 h)
