abbrev rmX5_putBytes : Room := { frames := 0, cells := 0, slots := 0, locals := 0 }
theorem hyX5_putBytes : yX5_putBytes.cls = RX5 ∧ yX5_putBytes.cls ≠ "java/lang/invoke/MethodHandle" ∧ yX5_putBytes.cls ≠ "java/lang/invoke/VarHandle" ∧ (parseMethodDescriptor yX5_putBytes.desc).map (fun d => d.parameters.length) = some 1 := by decide +kernel
theorem nX5_putBytes_X5 : ∀ w ∈ u_ws RX5 TX5 10, w ∈ wsX5_putBytes := by decide +kernel
theorem hX5_putBytes_13 : Cond.fieldLink RX5 13 (TX5 1).1 (TX5 1).2.1 (TX5 1).2.2.1 ∈ wsX5_putBytes := by decide +kernel
theorem hX5_putBytes_9 : Cond.fieldLink RX5 9 (TX5 0).1 (TX5 0).2.1 (TX5 0).2.2.1 ∈ wsX5_putBytes := by decide +kernel
def fX5_putBytes_L (a1 : Int32) : Nat → Int32 → St → Option (Int32 × St)
  | 0, _, _ => none
  | n + 1, v2, σ => if v2 < (0 : Int32) then (some ((0 : Int32), σ)) else (qlet (fun (y40 : St) => (qlet (v2 + (-8 : Int32)) (fun x40 => fX5_putBytes_L a1 n x40 y40))) (fun j40 => (if (2000 : Int32) ≤ (σ.1 0 1) then (j40 σ) else (qix (σ.1 0 1) 2000 (qlet (sI σ 1 (σ.1 0 1).toNatClampNeg (vp_nar .byte (a1 >>> (v2 &&& 31)).toInt8.toInt32)) (fun σ29 => qlet (sI σ29 0 1 ((σ29.1 0 1) + (1 : Int32))) (fun σ37 => j40 σ37)))))))
def fX5_putBytes (σ : St) (a1 : Int32) : Option (Int32 × St) := fX5_putBytes_L a1 100000 (24 : Int32) σ
set_option maxHeartbeats 4000000 in
set_option maxRecDepth 100000 in
theorem kX5_putBytes_L {ad : Nat → Nat} {cy : Nat → ClassId} {X : va_W} {A : Nat → Prop} {D : va_G} {zs : Nat × Nat × Option Nat} {p : Program} {l : Launch} {e : Env} {s : State} {m : MethodId} {args : Array Value} {below : List Frame} {meth : Method} {c : Code} {a1 : Int32} (C : qC ceC 96 ad cy X A D zs cX5_putBytes 3 RX5 wsX5_putBytes p s m args meth c none) (r0 : Int32) (σ0 : St) (n : Nat) : (∀ (v2 : Int32) (σ : St), fX5_putBytes_L a1 n v2 σ = some (r0, σ0) → qVv ceC 96 ad cy X A D p l e (headSpec wsX5_putBytes rmX5_putBytes).room s m args below meth c 3 r0 σ0 3 [(0, .ref (ad 0)), (1, .int a1), (2, .int v2)] [] σ) := by
  induction n with
  | zero =>
    intro v2 σ h; cases h
  | succ n ih =>
    intro v2 σ h
    rw [fX5_putBytes_L] at h
    refine q_iload_n C dX5_putBytes_3 rfl 2 rfl ?_
    refine q_if_lt C (tgt := 46) dX5_putBytes_4 (by decide) h (fun h => ?_) (fun h => ?_)
    · exact q_vret C (r0 := r0) rfl dX5_putBytes_46 h
    · refine q_aload_n C dX5_putBytes_7 rfl 0 rfl ?_
      refine q_get C (Cn := RX5) (T := TX5) (Nf := 10) (ci := 5) (id := 0) (k := 1) (v := .int (σ.1 0 1)) nX5_putBytes_X5 (by decide) (ceC_0 ad cy _ _ _) rfl (by decide) rfl hX5_putBytes_13 dX5_putBytes_8 ?_
      refine q_sipush C (v := 2000) dX5_putBytes_11 (by decide) ?_
      refine q_join (G := fun (y40 : St) => qVv ceC 96 ad cy X A D p l e (headSpec wsX5_putBytes rmX5_putBytes).room s m args below meth c 3 r0 σ0 40 [(0, .ref (ad 0)), (1, .int a1), (2, .int v2)] [] y40) h (fun y40 h => ?_) (fun j40 hj40 h => ?_)
      · refine q_iincL C dX5_putBytes_40 2 rfl (by decide) (nv := -8) (by decide) h (lw := fun x40 => [(0, .ref (ad 0)), (1, .int a1), (2, .int x40)]) (fun _ => rfl) (fun x40 h => ?_)
        refine q_goto C (tgt := 3) dX5_putBytes_43 (by decide) ?_
        exact q_sub [0, 1, 2] rfl (ih x40 y40 h)
      refine q_icmp_ge C (tgt := 40) dX5_putBytes_14 (by decide) h (fun h => ?_) (fun h => ?_)
      · exact q_sub [0, 1, 2] rfl (hj40 σ h)
      · refine q_aload_n C dX5_putBytes_17 rfl 0 rfl ?_
        refine q_get C (Cn := RX5) (T := TX5) (Nf := 10) (ci := 5) (id := 0) (k := 0) (v := .ref (ad 1)) nX5_putBytes_X5 (by decide) (ceC_0 ad cy _ _ _) rfl (by decide) rfl hX5_putBytes_9 dX5_putBytes_18 ?_
        refine q_aload_n C dX5_putBytes_21 rfl 0 rfl ?_
        refine q_get C (Cn := RX5) (T := TX5) (Nf := 10) (ci := 5) (id := 0) (k := 1) (v := .int (σ.1 0 1)) nX5_putBytes_X5 (by decide) (ceC_0 ad cy _ _ _) rfl (by decide) rfl hX5_putBytes_13 dX5_putBytes_22 ?_
        refine q_iload_n C dX5_putBytes_25 rfl 1 rfl ?_
        refine q_iload_n C dX5_putBytes_26 rfl 2 rfl ?_
        refine q_ishr C dX5_putBytes_27 ?_
        refine q_i2b C dX5_putBytes_28 ?_
        refine q_bast C (id := 1) (by decide) (fun f g => ceC_1 ad cy _ f g) dX5_putBytes_29 h (fun σ29 h => ?_)
        refine q_aload_n C dX5_putBytes_30 rfl 0 rfl ?_
        refine q_dup C dX5_putBytes_31 rfl ?_
        refine q_get C (Cn := RX5) (T := TX5) (Nf := 10) (ci := 5) (id := 0) (k := 1) (v := .int (σ29.1 0 1)) nX5_putBytes_X5 (by decide) (ceC_0 ad cy _ _ _) rfl (by decide) rfl hX5_putBytes_13 dX5_putBytes_32 ?_
        refine q_iconst C (v := 1) dX5_putBytes_35 (by decide) ?_
        refine q_iadd C dX5_putBytes_36 ?_
        refine q_put C (Cn := RX5) (T := TX5) (ty0 := tyX5) (Nf := 10) (ci := 5) (id := 0) (k := 1) (y := 0) tyX5_ok nmX5 nX5_putBytes_X5 (by decide) (ceC_0 ad cy _ _ _) (ceC_0 ad cy _ _ _) rfl (by decide) rfl (by decide +kernel) (Nat.le_of_ble_eq_true rfl) hX5_putBytes_13 dX5_putBytes_37 h (fun σ37 h => ?_)
        exact q_sub [0, 1, 2] rfl (hj40 σ37 h)
set_option maxHeartbeats 4000000 in
set_option maxRecDepth 100000 in
theorem kX5_putBytes (l : Launch) (D : va_G) (ad : Nat → Nat) (cy : Nat → ClassId) (X : va_W) (A : Nat → Prop) (zs : Nat × Nat × Option Nat) (σ : St) (a1 : Int32) (r0 : Int32) (σ0 : St) (h : fX5_putBytes σ a1 = some (r0, σ0)) : Met l yX5_putBytes wsX5_putBytes rmX5_putBytes (qPc ceC 96 ad cy X A D zs [.ref (ad 0), .int a1] σ) (qQv ceC 96 ad cy X A D σ0) 0 0 A := by
  refine Met.ofW (cc := cX5_putBytes) (maxL := 3) (ret := none) (by decide) rfl ?_
  intro p e s m args below meth c s₁ B hml hv
  obtain ⟨ha, hP, hK, hE, hD⟩ := hv
  have C : qC ceC 96 ad cy X A D zs cX5_putBytes 3 RX5 wsX5_putBytes p s m args meth c none := ⟨B.exec, B.bytes, hml, findClass_of_methodNamed B.named, atoms_spec (ws := wsX5_putBytes) B.pre, hK, hD, B.returns, B.notSynchronized, hE⟩
  rw [show entryFrame m args 3 = entryFrame m ([.ref (ad 0), .int a1] : List Value).toArray 3 by rw [ha]]
  refine q_entry (A := A) (Nat.le_of_ble_eq_true rfl) hP (lv := [(0, .ref (ad 0)), (1, .int a1)]) rfl ?_
  unfold fX5_putBytes at h
  refine q_bipush C (v := 24) dX5_putBytes_0 (by decide) ?_
  refine q_istore_n C dX5_putBytes_2 rfl (by decide) (lv' := [(0, .ref (ad 0)), (1, .int a1), (2, .int (24 : Int32))]) rfl ?_
  exact q_sub [0, 1, 2] rfl ((kX5_putBytes_L C r0 σ0 100000) (24 : Int32) σ h)
abbrev rmX5_feed : Room := { frames := 1, cells := 0, slots := 0, locals := 22 }
theorem hyX5_feed : yX5_feed.cls = RX5 ∧ yX5_feed.cls ≠ "java/lang/invoke/MethodHandle" ∧ yX5_feed.cls ≠ "java/lang/invoke/VarHandle" ∧ (parseMethodDescriptor yX5_feed.desc).map (fun d => d.parameters.length) = some 5 := by decide +kernel
theorem nX5_feed_X5 : ∀ w ∈ u_ws RX5 TX5 10, w ∈ wsX5_feed := by decide +kernel
theorem hX5_feed_13 : Cond.fieldLink RX5 13 (TX5 1).1 (TX5 1).2.1 (TX5 1).2.2.1 ∈ wsX5_feed := by decide +kernel
def fX5_feed (σ : St) (a1 : Int32) (a2 : Int32) (a3 : Int32) (a4 : Int32) (a5 : Int32) : Option (Int32 × St) := if ((σ.1 0 1) + (20 : Int32)) ≤ (2000 : Int32) then (qcall (fX5_putBytes σ a1) (fun _ σ17 => qcall (fX5_putBytes σ17 a2) (fun _ σ22 => qcall (fX5_putBytes σ22 a3) (fun _ σ27 => qcall (fX5_putBytes σ27 a4) (fun _ σ33 => qcall (fX5_putBytes σ33 a5) (fun _ σ39 => some ((σ39.1 0 1), σ39))))))) else (some ((-1 : Int32), σ))
set_option maxHeartbeats 4000000 in
set_option maxRecDepth 100000 in
theorem kX5_feed (l : Launch) (D : va_G) (ad : Nat → Nat) (cy : Nat → ClassId) (X : va_W) (A : Nat → Prop) (zs : Nat × Nat × Option Nat) (σ : St) (a1 : Int32) (a2 : Int32) (a3 : Int32) (a4 : Int32) (a5 : Int32) (r0 : Int32) (σ0 : St) (h : fX5_feed σ a1 a2 a3 a4 a5 = some (r0, σ0)) : Met l yX5_feed wsX5_feed rmX5_feed (qPc ceC 96 ad cy X A D zs [.ref (ad 0), .int a1, .int a2, .int a3, .int a4, .int a5] σ) (qQi ceC 96 ad cy X A D r0 σ0) 0 0 A := by
  refine Met.ofW (cc := cX5_feed) (maxL := 6) (ret := (some .int)) (by decide) rfl ?_
  intro p e s m args below meth c s₁ B hml hv
  obtain ⟨ha, hP, hK, hE, hD⟩ := hv
  have C : qC ceC 96 ad cy X A D zs cX5_feed 6 RX5 wsX5_feed p s m args meth c (some .int) := ⟨B.exec, B.bytes, hml, findClass_of_methodNamed B.named, atoms_spec (ws := wsX5_feed) B.pre, hK, hD, B.returns, B.notSynchronized, hE⟩
  rw [show entryFrame m args 6 = entryFrame m ([.ref (ad 0), .int a1, .int a2, .int a3, .int a4, .int a5] : List Value).toArray 6 by rw [ha]]
  refine q_entry (A := A) (Nat.le_of_ble_eq_true rfl) hP (lv := [(0, .ref (ad 0)), (1, .int a1), (2, .int a2), (3, .int a3), (4, .int a4), (5, .int a5)]) rfl ?_
  unfold fX5_feed at h
  refine q_aload_n C dX5_feed_0 rfl 0 rfl ?_
  refine q_get C (Cn := RX5) (T := TX5) (Nf := 10) (ci := 5) (id := 0) (k := 1) (v := .int (σ.1 0 1)) nX5_feed_X5 (by decide) (ceC_0 ad cy _ _ _) rfl (by decide) rfl hX5_feed_13 dX5_feed_1 ?_
  refine q_bipush C (v := 20) dX5_feed_4 (by decide) ?_
  refine q_iadd C dX5_feed_6 ?_
  refine q_sipush C (v := 2000) dX5_feed_7 (by decide) ?_
  refine q_icmp_le C (tgt := 15) dX5_feed_10 (by decide) h (fun h => ?_) (fun h => ?_)
  · refine q_aload_n C dX5_feed_15 rfl 0 rfl ?_
    refine q_iload_n C dX5_feed_16 rfl 1 rfl ?_
    refine q_callVv C (rm := rmX5_putBytes) (As := [.int a1]) (rest := []) (id := 0) (ci := 5) (fun r9 σ9 h9 => kX5_putBytes l D ad cy X A zs σ a1 r9 σ9 h9) gX5_feed_X5_putBytes rfl rfl rfl hyX5_putBytes ⟨Nat.le_of_ble_eq_true rfl, Nat.le_of_ble_eq_true rfl⟩ (by decide) (ceC_0 ad cy _ _ _) rfl rfl rfl (Nat.le_of_ble_eq_true rfl) dX5_feed_17 ⟨Nat.zero_le _, Nat.zero_le _⟩ h (fun r17 σ17 h => ?_)
    refine q_aload_n C dX5_feed_20 rfl 0 rfl ?_
    refine q_iload_n C dX5_feed_21 rfl 2 rfl ?_
    refine q_callVv C (rm := rmX5_putBytes) (As := [.int a2]) (rest := []) (id := 0) (ci := 5) (fun r9 σ9 h9 => kX5_putBytes l D ad cy X A zs σ17 a2 r9 σ9 h9) gX5_feed_X5_putBytes rfl rfl rfl hyX5_putBytes ⟨Nat.le_of_ble_eq_true rfl, Nat.le_of_ble_eq_true rfl⟩ (by decide) (ceC_0 ad cy _ _ _) rfl rfl rfl (Nat.le_of_ble_eq_true rfl) dX5_feed_22 ⟨Nat.zero_le _, Nat.zero_le _⟩ h (fun r22 σ22 h => ?_)
    refine q_aload_n C dX5_feed_25 rfl 0 rfl ?_
    refine q_iload_n C dX5_feed_26 rfl 3 rfl ?_
    refine q_callVv C (rm := rmX5_putBytes) (As := [.int a3]) (rest := []) (id := 0) (ci := 5) (fun r9 σ9 h9 => kX5_putBytes l D ad cy X A zs σ22 a3 r9 σ9 h9) gX5_feed_X5_putBytes rfl rfl rfl hyX5_putBytes ⟨Nat.le_of_ble_eq_true rfl, Nat.le_of_ble_eq_true rfl⟩ (by decide) (ceC_0 ad cy _ _ _) rfl rfl rfl (Nat.le_of_ble_eq_true rfl) dX5_feed_27 ⟨Nat.zero_le _, Nat.zero_le _⟩ h (fun r27 σ27 h => ?_)
    refine q_aload_n C dX5_feed_30 rfl 0 rfl ?_
    refine q_iload C dX5_feed_31 4 rfl ?_
    refine q_callVv C (rm := rmX5_putBytes) (As := [.int a4]) (rest := []) (id := 0) (ci := 5) (fun r9 σ9 h9 => kX5_putBytes l D ad cy X A zs σ27 a4 r9 σ9 h9) gX5_feed_X5_putBytes rfl rfl rfl hyX5_putBytes ⟨Nat.le_of_ble_eq_true rfl, Nat.le_of_ble_eq_true rfl⟩ (by decide) (ceC_0 ad cy _ _ _) rfl rfl rfl (Nat.le_of_ble_eq_true rfl) dX5_feed_33 ⟨Nat.zero_le _, Nat.zero_le _⟩ h (fun r33 σ33 h => ?_)
    refine q_aload_n C dX5_feed_36 rfl 0 rfl ?_
    refine q_iload C dX5_feed_37 5 rfl ?_
    refine q_callVv C (rm := rmX5_putBytes) (As := [.int a5]) (rest := []) (id := 0) (ci := 5) (fun r9 σ9 h9 => kX5_putBytes l D ad cy X A zs σ33 a5 r9 σ9 h9) gX5_feed_X5_putBytes rfl rfl rfl hyX5_putBytes ⟨Nat.le_of_ble_eq_true rfl, Nat.le_of_ble_eq_true rfl⟩ (by decide) (ceC_0 ad cy _ _ _) rfl rfl rfl (Nat.le_of_ble_eq_true rfl) dX5_feed_39 ⟨Nat.zero_le _, Nat.zero_le _⟩ h (fun r39 σ39 h => ?_)
    refine q_aload_n C dX5_feed_42 rfl 0 rfl ?_
    refine q_get C (Cn := RX5) (T := TX5) (Nf := 10) (ci := 5) (id := 0) (k := 1) (v := .int (σ39.1 0 1)) nX5_feed_X5 (by decide) (ceC_0 ad cy _ _ _) rfl (by decide) rfl hX5_feed_13 dX5_feed_43 ?_
    exact q_iret C rfl dX5_feed_46 h
  · refine q_iconst C (v := -1) dX5_feed_13 (by decide) ?_
    exact q_iret C rfl dX5_feed_14 h
abbrev rmX5_back : Room := { frames := 0, cells := 0, slots := 0, locals := 0 }
theorem hyX5_back : yX5_back.cls = RX5 ∧ yX5_back.cls ≠ "java/lang/invoke/MethodHandle" ∧ yX5_back.cls ≠ "java/lang/invoke/VarHandle" ∧ (parseMethodDescriptor yX5_back.desc).map (fun d => d.parameters.length) = some 1 := by decide +kernel
theorem nX5_back_X5 : ∀ w ∈ u_ws RX5 TX5 10, w ∈ wsX5_back := fun w h => List.mem_cons_of_mem _ (List.mem_append_right _ h)
theorem hX5_back_13 : Cond.fieldLink RX5 13 (TX5 1).1 (TX5 1).2.1 (TX5 1).2.2.1 ∈ wsX5_back := by decide +kernel
def fX5_back (σ : St) (a1 : Int32) : Option (Int32 × St) := qlet (fun (y12 : Unit) => (some ((-1 : Int32), σ))) (fun j12 => (if a1 < (0 : Int32) then (j12 ()) else (if a1 ≤ (σ.1 0 1) then (qlet (sI σ 0 1 ((σ.1 0 1) - a1)) (fun σ21 => some ((σ21.1 0 1), σ21))) else (j12 ()))))
set_option maxHeartbeats 4000000 in
set_option maxRecDepth 100000 in
theorem kX5_back (l : Launch) (D : va_G) (ad : Nat → Nat) (cy : Nat → ClassId) (X : va_W) (A : Nat → Prop) (zs : Nat × Nat × Option Nat) (σ : St) (a1 : Int32) (r0 : Int32) (σ0 : St) (h : fX5_back σ a1 = some (r0, σ0)) : Met l yX5_back wsX5_back rmX5_back (qPc ceC 96 ad cy X A D zs [.ref (ad 0), .int a1] σ) (qQi ceC 96 ad cy X A D r0 σ0) 0 0 A := by
  refine Met.ofW (cc := cX5_back) (maxL := 2) (ret := (some .int)) (by decide) rfl ?_
  intro p e s m args below meth c s₁ B hml hv
  obtain ⟨ha, hP, hK, hE, hD⟩ := hv
  have C : qC ceC 96 ad cy X A D zs cX5_back 2 RX5 wsX5_back p s m args meth c (some .int) := ⟨B.exec, B.bytes, hml, findClass_of_methodNamed B.named, atoms_spec (ws := wsX5_back) B.pre, hK, hD, B.returns, B.notSynchronized, hE⟩
  rw [show entryFrame m args 2 = entryFrame m ([.ref (ad 0), .int a1] : List Value).toArray 2 by rw [ha]]
  refine q_entry (A := A) (Nat.le_of_ble_eq_true rfl) hP (lv := [(0, .ref (ad 0)), (1, .int a1)]) rfl ?_
  unfold fX5_back at h
  refine q_iload_n C dX5_back_0 rfl 1 rfl ?_
  refine q_join (G := fun (y12 : Unit) => qVi ceC 96 ad cy X A D p l e (headSpec wsX5_back rmX5_back).room s m args below meth c 2 r0 σ0 12 [] [] σ) h (fun y12 h => ?_) (fun j12 hj12 h => ?_)
  · refine q_iconst C (v := -1) dX5_back_12 (by decide) ?_
    exact q_iret C rfl dX5_back_13 h
  refine q_if_lt C (tgt := 12) dX5_back_1 (by decide) h (fun h => ?_) (fun h => ?_)
  · exact q_sub [] rfl (hj12 () h)
  · refine q_iload_n C dX5_back_4 rfl 1 rfl ?_
    refine q_aload_n C dX5_back_5 rfl 0 rfl ?_
    refine q_get C (Cn := RX5) (T := TX5) (Nf := 10) (ci := 5) (id := 0) (k := 1) (v := .int (σ.1 0 1)) nX5_back_X5 (by decide) (ceC_0 ad cy _ _ _) rfl (by decide) rfl hX5_back_13 dX5_back_6 ?_
    refine q_icmp_le C (tgt := 14) dX5_back_9 (by decide) h (fun h => ?_) (fun h => ?_)
    · refine q_aload_n C dX5_back_14 rfl 0 rfl ?_
      refine q_dup C dX5_back_15 rfl ?_
      refine q_get C (Cn := RX5) (T := TX5) (Nf := 10) (ci := 5) (id := 0) (k := 1) (v := .int (σ.1 0 1)) nX5_back_X5 (by decide) (ceC_0 ad cy _ _ _) rfl (by decide) rfl hX5_back_13 dX5_back_16 ?_
      refine q_iload_n C dX5_back_19 rfl 1 rfl ?_
      refine q_isub C dX5_back_20 ?_
      refine q_put C (Cn := RX5) (T := TX5) (ty0 := tyX5) (Nf := 10) (ci := 5) (id := 0) (k := 1) (y := 0) tyX5_ok nmX5 nX5_back_X5 (by decide) (ceC_0 ad cy _ _ _) (ceC_0 ad cy _ _ _) rfl (by decide) rfl (by decide +kernel) (Nat.le_of_ble_eq_true rfl) hX5_back_13 dX5_back_21 h (fun σ21 h => ?_)
      refine q_aload_n C dX5_back_24 rfl 0 rfl ?_
      refine q_get C (Cn := RX5) (T := TX5) (Nf := 10) (ci := 5) (id := 0) (k := 1) (v := .int (σ21.1 0 1)) nX5_back_X5 (by decide) (ceC_0 ad cy _ _ _) rfl (by decide) rfl hX5_back_13 dX5_back_25 ?_
      exact q_iret C rfl dX5_back_28 h
    · exact q_sub [] rfl (hj12 () h)
abbrev rmX5_forgetAnswers : Room := { frames := 0, cells := 0, slots := 0, locals := 0 }
theorem hyX5_forgetAnswers : yX5_forgetAnswers.cls = RX5 ∧ yX5_forgetAnswers.cls ≠ "java/lang/invoke/MethodHandle" ∧ yX5_forgetAnswers.cls ≠ "java/lang/invoke/VarHandle" ∧ (parseMethodDescriptor yX5_forgetAnswers.desc).map (fun d => d.parameters.length) = some 0 := by decide +kernel
theorem nX5_forgetAnswers_X0 : ∀ w ∈ u_ws RX0 TX0 9, w ∈ wsX5_forgetAnswers := fun w h => List.mem_cons_of_mem _ (List.mem_append_left _ (List.mem_append_right _ h))
theorem nX5_forgetAnswers_X1 : ∀ w ∈ u_ws RX1 TX1 10, w ∈ wsX5_forgetAnswers := fun w h => List.mem_cons_of_mem _ (List.mem_append_right _ h)
theorem nX5_forgetAnswers_X5 : ∀ w ∈ u_ws RX5 TX5 10, w ∈ wsX5_forgetAnswers := fun w h => List.mem_cons_of_mem _ (List.mem_append_left _ (List.mem_append_left _ (List.mem_append_right _ h)))
theorem hX5_forgetAnswers_32 : Cond.fieldLink RX5 32 (TX5 4).1 (TX5 4).2.1 (TX5 4).2.2.1 ∈ wsX5_forgetAnswers := by decide +kernel
theorem hX5_forgetAnswers_196 : Cond.fieldLink RX5 196 (TX0 8).1 (TX0 8).2.1 (TX0 8).2.2.1 ∈ wsX5_forgetAnswers := by decide +kernel
theorem hX5_forgetAnswers_61 : Cond.fieldLink RX5 61 (TX5 8).1 (TX5 8).2.1 (TX5 8).2.2.1 ∈ wsX5_forgetAnswers := by decide +kernel
theorem hX5_forgetAnswers_199 : Cond.fieldLink RX5 199 (TX1 9).1 (TX1 9).2.1 (TX1 9).2.2.1 ∈ wsX5_forgetAnswers := by decide +kernel
def fX5_forgetAnswers (σ : St) : Option (Int32 × St) := qlet (sI σ 21 8 (-1 : Int32)) (fun σ5 => qlet (sI σ5 36 9 (-1 : Int32)) (fun σ13 => some ((0 : Int32), σ13)))
set_option maxHeartbeats 4000000 in
set_option maxRecDepth 100000 in
theorem kX5_forgetAnswers (l : Launch) (D : va_G) (ad : Nat → Nat) (cy : Nat → ClassId) (X : va_W) (A : Nat → Prop) (zs : Nat × Nat × Option Nat) (σ : St) (r0 : Int32) (σ0 : St) (h : fX5_forgetAnswers σ = some (r0, σ0)) : Met l yX5_forgetAnswers wsX5_forgetAnswers rmX5_forgetAnswers (qPc ceC 96 ad cy X A D zs [.ref (ad 0)] σ) (qQv ceC 96 ad cy X A D σ0) 0 0 A := by
  refine Met.ofW (cc := cX5_forgetAnswers) (maxL := 1) (ret := none) (by decide) rfl ?_
  intro p e s m args below meth c s₁ B hml hv
  obtain ⟨ha, hP, hK, hE, hD⟩ := hv
  have C : qC ceC 96 ad cy X A D zs cX5_forgetAnswers 1 RX5 wsX5_forgetAnswers p s m args meth c none := ⟨B.exec, B.bytes, hml, findClass_of_methodNamed B.named, atoms_spec (ws := wsX5_forgetAnswers) B.pre, hK, hD, B.returns, B.notSynchronized, hE⟩
  rw [show entryFrame m args 1 = entryFrame m ([.ref (ad 0)] : List Value).toArray 1 by rw [ha]]
  refine q_entry (A := A) (Nat.le_of_ble_eq_true rfl) hP (lv := [(0, .ref (ad 0))]) rfl ?_
  unfold fX5_forgetAnswers at h
  refine q_aload_n C dX5_forgetAnswers_0 rfl 0 rfl ?_
  refine q_get C (Cn := RX5) (T := TX5) (Nf := 10) (ci := 5) (id := 0) (k := 4) (v := .ref (ad 21)) nX5_forgetAnswers_X5 (by decide) (ceC_0 ad cy _ _ _) rfl (by decide) rfl hX5_forgetAnswers_32 dX5_forgetAnswers_1 ?_
  refine q_iconst C (v := -1) dX5_forgetAnswers_4 (by decide) ?_
  refine q_put C (Cn := RX0) (T := TX0) (ty0 := tyX0) (Nf := 9) (ci := 0) (id := 21) (k := 8) (y := 0) tyX0_ok nmX0 nX5_forgetAnswers_X0 (by decide) (ceC_21 ad cy _ _ _) (ceC_21 ad cy _ _ _) rfl (by decide) rfl (by decide +kernel) (Nat.le_of_ble_eq_true rfl) hX5_forgetAnswers_196 dX5_forgetAnswers_5 h (fun σ5 h => ?_)
  refine q_aload_n C dX5_forgetAnswers_8 rfl 0 rfl ?_
  refine q_get C (Cn := RX5) (T := TX5) (Nf := 10) (ci := 5) (id := 0) (k := 8) (v := .ref (ad 36)) nX5_forgetAnswers_X5 (by decide) (ceC_0 ad cy _ _ _) rfl (by decide) rfl hX5_forgetAnswers_61 dX5_forgetAnswers_9 ?_
  refine q_iconst C (v := -1) dX5_forgetAnswers_12 (by decide) ?_
  refine q_put C (Cn := RX1) (T := TX1) (ty0 := tyX1) (Nf := 10) (ci := 1) (id := 36) (k := 9) (y := 0) tyX1_ok nmX1 nX5_forgetAnswers_X1 (by decide) (ceC_36 ad cy _ _ _) (ceC_36 ad cy _ _ _) rfl (by decide) rfl (by decide +kernel) (Nat.le_of_ble_eq_true rfl) hX5_forgetAnswers_199 dX5_forgetAnswers_13 h (fun σ13 h => ?_)
  exact q_vret C (r0 := r0) rfl dX5_forgetAnswers_16 h
abbrev rmX5_read : Room := { frames := 8, cells := 0, slots := 0, locals := 175 }
theorem hyX5_read : yX5_read.cls = RX5 ∧ yX5_read.cls ≠ "java/lang/invoke/MethodHandle" ∧ yX5_read.cls ≠ "java/lang/invoke/VarHandle" ∧ (parseMethodDescriptor yX5_read.desc).map (fun d => d.parameters.length) = some 1 := by decide +kernel
theorem nX5_read_X2 : ∀ w ∈ u_ws RX2 TX2 10, w ∈ wsX5_read := fun w h => List.mem_cons_of_mem _ (List.mem_append_left _ (List.mem_append_left _ (List.mem_append_left _ (List.mem_append_left _ (List.mem_append_right _ h)))))
theorem nX5_read_X5 : ∀ w ∈ u_ws RX5 TX5 10, w ∈ wsX5_read := fun w h => List.mem_cons_of_mem _ (List.mem_append_left _ (List.mem_append_left _ (List.mem_append_left _ (List.mem_append_left _ (List.mem_append_left _ (List.mem_append_right _ h))))))
theorem hX5_read_23 : Cond.fieldLink RX5 23 (TX5 3).1 (TX5 3).2.1 (TX5 3).2.2.1 ∈ wsX5_read := by decide +kernel
theorem hX5_read_52 : Cond.fieldLink RX5 52 (TX5 7).1 (TX5 7).2.1 (TX5 7).2.2.1 ∈ wsX5_read := by decide +kernel
theorem hX5_read_43 : Cond.fieldLink RX5 43 (TX5 6).1 (TX5 6).2.1 (TX5 6).2.2.1 ∈ wsX5_read := by decide +kernel
theorem hX5_read_13 : Cond.fieldLink RX5 13 (TX5 1).1 (TX5 1).2.1 (TX5 1).2.2.1 ∈ wsX5_read := by decide +kernel
theorem hX5_read_81 : Cond.fieldLink RX5 81 (TX2 9).1 (TX2 9).2.1 (TX2 9).2.2.1 ∈ wsX5_read := by decide +kernel
theorem hX5_read_17 : Cond.fieldLink RX5 17 (TX5 2).1 (TX5 2).2.1 (TX5 2).2.2.1 ∈ wsX5_read := by decide +kernel
theorem hX5_read_38 : Cond.fieldLink RX5 38 (TX5 5).1 (TX5 5).2.1 (TX5 5).2.2.1 ∈ wsX5_read := by decide +kernel
def fX5_read (σ : St) (a1 : Int32) : Option (Int32 × St) := qcall (fX4_isLand σ a1) (fun r5 σ5 => if r5 = (0 : Int32) then (some ((-1 : Int32), σ5)) else (qlet (σ5.2.2 6) (fun t18 => qtx t18 (qcall (fX2_readInto σ5 t18 (σ5.1 0 1)) (fun r25 σ25 => qlet (sI σ25 0 1 (0 : Int32)) (fun σ31 => if r25 = (0 : Int32) then (qlet (sI σ31 0 2 (-1 : Int32)) (fun σ53 => qix a1 6 (qlet (σ53.2.2 a1.toNatClampNeg) (fun t61 => qtx t61 (qlet (σ53.2.2 6) (fun t69 => qtx t69 (qix a1 6 (qlet (sT σ53 a1.toNatClampNeg t69) (fun σ72 => qlet (sT σ72 6 t61) (fun σ75 => qcall (fX5_forgetAnswers σ75) (fun _ σ79 => some ((0 : Int32), σ79)))))))))))) else (qlet (sI σ31 0 2 (σ31.1 34 9)) (fun σ46 => some (r25, σ46)))))))))
set_option maxHeartbeats 4000000 in
set_option maxRecDepth 100000 in
theorem kX5_read (l : Launch) (D : va_G) (ad : Nat → Nat) (cy : Nat → ClassId) (X : va_W) (A : Nat → Prop) (zs : Nat × Nat × Option Nat) (σ : St) (a1 : Int32) (r0 : Int32) (σ0 : St) (h : fX5_read σ a1 = some (r0, σ0)) : Met l yX5_read wsX5_read rmX5_read (qPc ceC 96 ad cy X A D zs [.ref (ad 0), .int a1] σ) (qQi ceC 96 ad cy X A D r0 σ0) 0 0 A := by
  refine Met.ofW (cc := cX5_read) (maxL := 4) (ret := (some .int)) (by decide) rfl ?_
  intro p e s m args below meth c s₁ B hml hv
  obtain ⟨ha, hP, hK, hE, hD⟩ := hv
  have C : qC ceC 96 ad cy X A D zs cX5_read 4 RX5 wsX5_read p s m args meth c (some .int) := ⟨B.exec, B.bytes, hml, findClass_of_methodNamed B.named, atoms_spec (ws := wsX5_read) B.pre, hK, hD, B.returns, B.notSynchronized, hE⟩
  rw [show entryFrame m args 4 = entryFrame m ([.ref (ad 0), .int a1] : List Value).toArray 4 by rw [ha]]
  refine q_entry (A := A) (Nat.le_of_ble_eq_true rfl) hP (lv := [(0, .ref (ad 0)), (1, .int a1)]) rfl ?_
  unfold fX5_read at h
  refine q_aload_n C dX5_read_0 rfl 0 rfl ?_
  refine q_get C (Cn := RX5) (T := TX5) (Nf := 10) (ci := 5) (id := 0) (k := 3) (v := .ref (ad 2)) nX5_read_X5 (by decide) (ceC_0 ad cy _ _ _) rfl (by decide) rfl hX5_read_23 dX5_read_1 ?_
  refine q_iload_n C dX5_read_4 rfl 1 rfl ?_
  refine q_callVi C (rm := rmX4_isLand) (As := [.int a1]) (rest := []) (id := 2) (ci := 4) (fun r9 σ9 h9 => kX4_isLand l D ad cy X A zs σ a1 r9 σ9 h9) gX5_read_X4_isLand rfl rfl rfl hyX4_isLand ⟨Nat.le_of_ble_eq_true rfl, Nat.le_of_ble_eq_true rfl⟩ (by decide) (ceC_2 ad cy _ _ _) rfl rfl rfl (Nat.le_of_ble_eq_true rfl) dX5_read_5 ⟨Nat.zero_le _, Nat.zero_le _⟩ h (fun r5 σ5 h => ?_)
  refine q_if_ne C (tgt := 13) dX5_read_8 (by decide) h (fun h => ?_) (fun h => ?_)
  · refine q_aload_n C dX5_read_13 rfl 0 rfl ?_
    refine q_get C (Cn := RX5) (T := TX5) (Nf := 10) (ci := 5) (id := 0) (k := 7) (v := .ref (ad 34)) nX5_read_X5 (by decide) (ceC_0 ad cy _ _ _) rfl (by decide) rfl hX5_read_52 dX5_read_14 ?_
    refine q_aload_n C dX5_read_17 rfl 0 rfl ?_
    refine q_getT C nX5_read_X5 hX5_read_43 dX5_read_18 h (fun t18 ht18 h => ?_)
    refine q_aload_n C dX5_read_21 rfl 0 rfl ?_
    refine q_get C (Cn := RX5) (T := TX5) (Nf := 10) (ci := 5) (id := 0) (k := 1) (v := .int (σ5.1 0 1)) nX5_read_X5 (by decide) (ceC_0 ad cy _ _ _) rfl (by decide) rfl hX5_read_13 dX5_read_22 ?_
    refine q_callVi C (rm := rmX2_readInto) (As := [.ref (ad (61 + 5 * t18)), .int (σ5.1 0 1)]) (rest := []) (id := 34) (ci := 2) (fun r9 σ9 h9 => kX2_readInto l D ad cy X A zs σ5 t18 (σ5.1 0 1) ht18 r9 σ9 h9) gX5_read_X2_readInto rfl rfl rfl hyX2_readInto ⟨Nat.le_of_ble_eq_true rfl, Nat.le_of_ble_eq_true rfl⟩ (by decide) (ceC_34 ad cy _ _ _) rfl rfl rfl (Nat.le_of_ble_eq_true rfl) dX5_read_25 ⟨Nat.zero_le _, Nat.zero_le _⟩ h (fun r25 σ25 h => ?_)
    refine q_istore_n C dX5_read_28 rfl (by decide) (lv' := [(0, .ref (ad 0)), (1, .int a1), (2, .int r25)]) rfl ?_
    refine q_aload_n C dX5_read_29 rfl 0 rfl ?_
    refine q_iconst C (v := 0) dX5_read_30 (by decide) ?_
    refine q_put C (Cn := RX5) (T := TX5) (ty0 := tyX5) (Nf := 10) (ci := 5) (id := 0) (k := 1) (y := 0) tyX5_ok nmX5 nX5_read_X5 (by decide) (ceC_0 ad cy _ _ _) (ceC_0 ad cy _ _ _) rfl (by decide) rfl (by decide +kernel) (Nat.le_of_ble_eq_true rfl) hX5_read_13 dX5_read_31 h (fun σ31 h => ?_)
    refine q_iload_n C dX5_read_34 rfl 2 rfl ?_
    refine q_if_eq C (tgt := 51) dX5_read_35 (by decide) h (fun h => ?_) (fun h => ?_)
    · refine q_aload_n C dX5_read_51 rfl 0 rfl ?_
      refine q_iconst C (v := -1) dX5_read_52 (by decide) ?_
      refine q_put C (Cn := RX5) (T := TX5) (ty0 := tyX5) (Nf := 10) (ci := 5) (id := 0) (k := 2) (y := 0) tyX5_ok nmX5 nX5_read_X5 (by decide) (ceC_0 ad cy _ _ _) (ceC_0 ad cy _ _ _) rfl (by decide) rfl (by decide +kernel) (Nat.le_of_ble_eq_true rfl) hX5_read_17 dX5_read_53 h (fun σ53 h => ?_)
      refine q_aload_n C dX5_read_56 rfl 0 rfl ?_
      refine q_get C (Cn := RX5) (T := TX5) (Nf := 10) (ci := 5) (id := 0) (k := 5) (v := .ref (ad 33)) nX5_read_X5 (by decide) (ceC_0 ad cy _ _ _) rfl (by decide) rfl hX5_read_38 dX5_read_57 ?_
      refine q_iload_n C dX5_read_60 rfl 1 rfl ?_
      refine q_aaldT C dX5_read_61 h (fun t61 ht61 h => ?_)
      refine q_astore_n C dX5_read_62 rfl (by decide) (lv' := [(0, .ref (ad 0)), (1, .int a1), (2, .int r25), (3, .ref (ad (61 + 5 * t61)))]) rfl ?_
      refine q_aload_n C dX5_read_63 rfl 0 rfl ?_
      refine q_get C (Cn := RX5) (T := TX5) (Nf := 10) (ci := 5) (id := 0) (k := 5) (v := .ref (ad 33)) nX5_read_X5 (by decide) (ceC_0 ad cy _ _ _) rfl (by decide) rfl hX5_read_38 dX5_read_64 ?_
      refine q_iload_n C dX5_read_67 rfl 1 rfl ?_
      refine q_aload_n C dX5_read_68 rfl 0 rfl ?_
      refine q_getT C nX5_read_X5 hX5_read_43 dX5_read_69 h (fun t69 ht69 h => ?_)
      refine q_aastT C ht69 dX5_read_72 h (fun σ72 h => ?_)
      refine q_aload_n C dX5_read_73 rfl 0 rfl ?_
      refine q_aload_n C dX5_read_74 rfl 3 rfl ?_
      refine q_putT C ht61 nX5_read_X5 hX5_read_43 dX5_read_75 h (fun σ75 h => ?_)
      refine q_aload_n C dX5_read_78 rfl 0 rfl ?_
      refine q_callVv C (rm := rmX5_forgetAnswers) (As := []) (rest := []) (id := 0) (ci := 5) (fun r9 σ9 h9 => kX5_forgetAnswers l D ad cy X A zs σ75 r9 σ9 h9) gX5_read_X5_forgetAnswers rfl rfl rfl hyX5_forgetAnswers ⟨Nat.le_of_ble_eq_true rfl, Nat.le_of_ble_eq_true rfl⟩ (by decide) (ceC_0 ad cy _ _ _) rfl rfl rfl (Nat.le_of_ble_eq_true rfl) dX5_read_79 ⟨Nat.zero_le _, Nat.zero_le _⟩ h (fun r79 σ79 h => ?_)
      refine q_iconst C (v := 0) dX5_read_82 (by decide) ?_
      exact q_iret C rfl dX5_read_83 h
    · refine q_aload_n C dX5_read_38 rfl 0 rfl ?_
      refine q_aload_n C dX5_read_39 rfl 0 rfl ?_
      refine q_get C (Cn := RX5) (T := TX5) (Nf := 10) (ci := 5) (id := 0) (k := 7) (v := .ref (ad 34)) nX5_read_X5 (by decide) (ceC_0 ad cy _ _ _) rfl (by decide) rfl hX5_read_52 dX5_read_40 ?_
      refine q_get C (Cn := RX2) (T := TX2) (Nf := 10) (ci := 2) (id := 34) (k := 9) (v := .int (σ31.1 34 9)) nX5_read_X2 (by decide) (ceC_34 ad cy _ _ _) rfl (by decide) rfl hX5_read_81 dX5_read_43 ?_
      refine q_put C (Cn := RX5) (T := TX5) (ty0 := tyX5) (Nf := 10) (ci := 5) (id := 0) (k := 2) (y := 0) tyX5_ok nmX5 nX5_read_X5 (by decide) (ceC_0 ad cy _ _ _) (ceC_0 ad cy _ _ _) rfl (by decide) rfl (by decide +kernel) (Nat.le_of_ble_eq_true rfl) hX5_read_17 dX5_read_46 h (fun σ46 h => ?_)
      refine q_iload_n C dX5_read_49 rfl 2 rfl ?_
      exact q_iret C rfl dX5_read_50 h
  · refine q_iconst C (v := -1) dX5_read_11 (by decide) ?_
    exact q_iret C rfl dX5_read_12 h
abbrev rmX5_place : Room := { frames := 0, cells := 0, slots := 0, locals := 0 }
theorem hyX5_place : yX5_place.cls = RX5 ∧ yX5_place.cls ≠ "java/lang/invoke/MethodHandle" ∧ yX5_place.cls ≠ "java/lang/invoke/VarHandle" ∧ (parseMethodDescriptor yX5_place.desc).map (fun d => d.parameters.length) = some 0 := by decide +kernel
theorem nX5_place_X5 : ∀ w ∈ u_ws RX5 TX5 10, w ∈ wsX5_place := fun w h => List.mem_cons_of_mem _ (List.mem_append_right _ h)
theorem hX5_place_17 : Cond.fieldLink RX5 17 (TX5 2).1 (TX5 2).2.1 (TX5 2).2.2.1 ∈ wsX5_place := by decide +kernel
def fX5_place (σ : St) : Option (Int32 × St) := some ((σ.1 0 2), σ)
set_option maxHeartbeats 4000000 in
set_option maxRecDepth 100000 in
theorem kX5_place (l : Launch) (D : va_G) (ad : Nat → Nat) (cy : Nat → ClassId) (X : va_W) (A : Nat → Prop) (zs : Nat × Nat × Option Nat) (σ : St) (r0 : Int32) (σ0 : St) (h : fX5_place σ = some (r0, σ0)) : Met l yX5_place wsX5_place rmX5_place (qPc ceC 96 ad cy X A D zs [.ref (ad 0)] σ) (qQi ceC 96 ad cy X A D r0 σ0) 0 0 A := by
  refine Met.ofW (cc := cX5_place) (maxL := 1) (ret := (some .int)) (by decide) rfl ?_
  intro p e s m args below meth c s₁ B hml hv
  obtain ⟨ha, hP, hK, hE, hD⟩ := hv
  have C : qC ceC 96 ad cy X A D zs cX5_place 1 RX5 wsX5_place p s m args meth c (some .int) := ⟨B.exec, B.bytes, hml, findClass_of_methodNamed B.named, atoms_spec (ws := wsX5_place) B.pre, hK, hD, B.returns, B.notSynchronized, hE⟩
  rw [show entryFrame m args 1 = entryFrame m ([.ref (ad 0)] : List Value).toArray 1 by rw [ha]]
  refine q_entry (A := A) (Nat.le_of_ble_eq_true rfl) hP (lv := [(0, .ref (ad 0))]) rfl ?_
  unfold fX5_place at h
  refine q_aload_n C dX5_place_0 rfl 0 rfl ?_
  refine q_get C (Cn := RX5) (T := TX5) (Nf := 10) (ci := 5) (id := 0) (k := 2) (v := .int (σ.1 0 2)) nX5_place_X5 (by decide) (ceC_0 ad cy _ _ _) rfl (by decide) rfl hX5_place_17 dX5_place_1 ?_
  exact q_iret C rfl dX5_place_4 h
abbrev rmX5_moon : Room := { frames := 1, cells := 0, slots := 0, locals := 20 }
theorem hyX5_moon : yX5_moon.cls = RX5 ∧ yX5_moon.cls ≠ "java/lang/invoke/MethodHandle" ∧ yX5_moon.cls ≠ "java/lang/invoke/VarHandle" ∧ (parseMethodDescriptor yX5_moon.desc).map (fun d => d.parameters.length) = some 1 := by decide +kernel
theorem nX5_moon_X4 : ∀ w ∈ u_ws RX4 TX4 8, w ∈ wsX5_moon := by decide +kernel
theorem nX5_moon_X5 : ∀ w ∈ u_ws RX5 TX5 10, w ∈ wsX5_moon := by decide +kernel
theorem hX5_moon_23 : Cond.fieldLink RX5 23 (TX5 3).1 (TX5 3).2.1 (TX5 3).2.2.1 ∈ wsX5_moon := by decide +kernel
theorem hX5_moon_87 : Cond.fieldLink RX5 87 (TX4 6).1 (TX4 6).2.1 (TX4 6).2.2.1 ∈ wsX5_moon := by decide +kernel
theorem hX5_moon_90 : Cond.fieldLink RX5 90 (TX4 0).1 (TX4 0).2.1 (TX4 0).2.2.1 ∈ wsX5_moon := by decide +kernel
def fX5_moon (σ : St) (a1 : Int32) : Option (Int32 × St) := qlet (σ.1 2 6) (fun x7 => qlet (fun (y25 : Unit) => (some ((-1 : Int32), σ))) (fun j25 => (if (14 : Int32) ≤ x7 then (j25 ()) else (if a1 < (0 : Int32) then (j25 ()) else (if a1 < (10000 : Int32) then (qlet (fun (y48 : Unit) => (qix x7 14 (qlet (sI σ 3 x7.toNatClampNeg a1) (fun σ57 => qlet (sI σ57 2 6 (x7 + (1 : Int32))) (fun σ65 => qcall (fX5_forgetAnswers σ65) (fun _ σ69 => some (x7, σ69))))))) (fun j48 => (if x7 ≤ (0 : Int32) then (j48 ()) else (qix (x7 - (1 : Int32)) 14 (if (σ.1 3 (x7 - (1 : Int32)).toNatClampNeg) < a1 then (j48 ()) else (some ((-1 : Int32), σ))))))) else (j25 ()))))))
set_option maxHeartbeats 4000000 in
set_option maxRecDepth 100000 in
theorem kX5_moon (l : Launch) (D : va_G) (ad : Nat → Nat) (cy : Nat → ClassId) (X : va_W) (A : Nat → Prop) (zs : Nat × Nat × Option Nat) (σ : St) (a1 : Int32) (r0 : Int32) (σ0 : St) (h : fX5_moon σ a1 = some (r0, σ0)) : Met l yX5_moon wsX5_moon rmX5_moon (qPc ceC 96 ad cy X A D zs [.ref (ad 0), .int a1] σ) (qQi ceC 96 ad cy X A D r0 σ0) 0 0 A := by
  refine Met.ofW (cc := cX5_moon) (maxL := 3) (ret := (some .int)) (by decide) rfl ?_
  intro p e s m args below meth c s₁ B hml hv
  obtain ⟨ha, hP, hK, hE, hD⟩ := hv
  have C : qC ceC 96 ad cy X A D zs cX5_moon 3 RX5 wsX5_moon p s m args meth c (some .int) := ⟨B.exec, B.bytes, hml, findClass_of_methodNamed B.named, atoms_spec (ws := wsX5_moon) B.pre, hK, hD, B.returns, B.notSynchronized, hE⟩
  rw [show entryFrame m args 3 = entryFrame m ([.ref (ad 0), .int a1] : List Value).toArray 3 by rw [ha]]
  refine q_entry (A := A) (Nat.le_of_ble_eq_true rfl) hP (lv := [(0, .ref (ad 0)), (1, .int a1)]) rfl ?_
  unfold fX5_moon at h
  refine q_aload_n C dX5_moon_0 rfl 0 rfl ?_
  refine q_get C (Cn := RX5) (T := TX5) (Nf := 10) (ci := 5) (id := 0) (k := 3) (v := .ref (ad 2)) nX5_moon_X5 (by decide) (ceC_0 ad cy _ _ _) rfl (by decide) rfl hX5_moon_23 dX5_moon_1 ?_
  refine q_get C (Cn := RX4) (T := TX4) (Nf := 8) (ci := 4) (id := 2) (k := 6) (v := .int (σ.1 2 6)) nX5_moon_X4 (by decide) (ceC_2 ad cy _ _ _) rfl (by decide) rfl hX5_moon_87 dX5_moon_4 ?_
  refine q_istore_nL C dX5_moon_7 rfl (by decide) h (lw := fun x7 => [(0, .ref (ad 0)), (1, .int a1), (2, .int x7)]) (fun _ => rfl) (fun x7 h => ?_)
  refine q_iload_n C dX5_moon_8 rfl 2 rfl ?_
  refine q_bipush C (v := 14) dX5_moon_9 (by decide) ?_
  refine q_join (G := fun (y25 : Unit) => qVi ceC 96 ad cy X A D p l e (headSpec wsX5_moon rmX5_moon).room s m args below meth c 3 r0 σ0 25 [] [] σ) h (fun y25 h => ?_) (fun j25 hj25 h => ?_)
  · refine q_iconst C (v := -1) dX5_moon_25 (by decide) ?_
    exact q_iret C rfl dX5_moon_26 h
  refine q_icmp_ge C (tgt := 25) dX5_moon_11 (by decide) h (fun h => ?_) (fun h => ?_)
  · exact q_sub [] rfl (hj25 () h)
  · refine q_iload_n C dX5_moon_14 rfl 1 rfl ?_
    refine q_if_lt C (tgt := 25) dX5_moon_15 (by decide) h (fun h => ?_) (fun h => ?_)
    · exact q_sub [] rfl (hj25 () h)
    · refine q_iload_n C dX5_moon_18 rfl 1 rfl ?_
      refine q_sipush C (v := 10000) dX5_moon_19 (by decide) ?_
      refine q_icmp_lt C (tgt := 27) dX5_moon_22 (by decide) h (fun h => ?_) (fun h => ?_)
      · refine q_iload_n C dX5_moon_27 rfl 2 rfl ?_
        refine q_join (G := fun (y48 : Unit) => qVi ceC 96 ad cy X A D p l e (headSpec wsX5_moon rmX5_moon).room s m args below meth c 3 r0 σ0 48 [(0, .ref (ad 0)), (1, .int a1), (2, .int x7)] [] σ) h (fun y48 h => ?_) (fun j48 hj48 h => ?_)
        · refine q_aload_n C dX5_moon_48 rfl 0 rfl ?_
          refine q_get C (Cn := RX5) (T := TX5) (Nf := 10) (ci := 5) (id := 0) (k := 3) (v := .ref (ad 2)) nX5_moon_X5 (by decide) (ceC_0 ad cy _ _ _) rfl (by decide) rfl hX5_moon_23 dX5_moon_49 ?_
          refine q_get C (Cn := RX4) (T := TX4) (Nf := 8) (ci := 4) (id := 2) (k := 0) (v := .ref (ad 3)) nX5_moon_X4 (by decide) (ceC_2 ad cy _ _ _) rfl (by decide) rfl hX5_moon_90 dX5_moon_52 ?_
          refine q_iload_n C dX5_moon_55 rfl 2 rfl ?_
          refine q_iload_n C dX5_moon_56 rfl 1 rfl ?_
          refine q_iast C (id := 3) (by decide) (fun f g => ceC_3 ad cy _ f g) dX5_moon_57 h (fun σ57 h => ?_)
          refine q_aload_n C dX5_moon_58 rfl 0 rfl ?_
          refine q_get C (Cn := RX5) (T := TX5) (Nf := 10) (ci := 5) (id := 0) (k := 3) (v := .ref (ad 2)) nX5_moon_X5 (by decide) (ceC_0 ad cy _ _ _) rfl (by decide) rfl hX5_moon_23 dX5_moon_59 ?_
          refine q_iload_n C dX5_moon_62 rfl 2 rfl ?_
          refine q_iconst C (v := 1) dX5_moon_63 (by decide) ?_
          refine q_iadd C dX5_moon_64 ?_
          refine q_put C (Cn := RX4) (T := TX4) (ty0 := tyX4) (Nf := 8) (ci := 4) (id := 2) (k := 6) (y := 0) tyX4_ok nmX4 nX5_moon_X4 (by decide) (ceC_2 ad cy _ _ _) (ceC_2 ad cy _ _ _) rfl (by decide) rfl (by decide +kernel) (Nat.le_of_ble_eq_true rfl) hX5_moon_87 dX5_moon_65 h (fun σ65 h => ?_)
          refine q_aload_n C dX5_moon_68 rfl 0 rfl ?_
          refine q_callVv C (rm := rmX5_forgetAnswers) (As := []) (rest := []) (id := 0) (ci := 5) (fun r9 σ9 h9 => kX5_forgetAnswers l D ad cy X A zs σ65 r9 σ9 h9) gX5_moon_X5_forgetAnswers rfl rfl rfl hyX5_forgetAnswers ⟨Nat.le_of_ble_eq_true rfl, Nat.le_of_ble_eq_true rfl⟩ (by decide) (ceC_0 ad cy _ _ _) rfl rfl rfl (Nat.le_of_ble_eq_true rfl) dX5_moon_69 ⟨Nat.zero_le _, Nat.zero_le _⟩ h (fun r69 σ69 h => ?_)
          refine q_iload_n C dX5_moon_72 rfl 2 rfl ?_
          exact q_iret C rfl dX5_moon_73 h
        refine q_if_le C (tgt := 48) dX5_moon_28 (by decide) h (fun h => ?_) (fun h => ?_)
        · exact q_sub [0, 1, 2] rfl (hj48 () h)
        · refine q_iload_n C dX5_moon_31 rfl 1 rfl ?_
          refine q_aload_n C dX5_moon_32 rfl 0 rfl ?_
          refine q_get C (Cn := RX5) (T := TX5) (Nf := 10) (ci := 5) (id := 0) (k := 3) (v := .ref (ad 2)) nX5_moon_X5 (by decide) (ceC_0 ad cy _ _ _) rfl (by decide) rfl hX5_moon_23 dX5_moon_33 ?_
          refine q_get C (Cn := RX4) (T := TX4) (Nf := 8) (ci := 4) (id := 2) (k := 0) (v := .ref (ad 3)) nX5_moon_X4 (by decide) (ceC_2 ad cy _ _ _) rfl (by decide) rfl hX5_moon_90 dX5_moon_36 ?_
          refine q_iload_n C dX5_moon_39 rfl 2 rfl ?_
          refine q_iconst C (v := 1) dX5_moon_40 (by decide) ?_
          refine q_isub C dX5_moon_41 ?_
          refine q_iald C (id := 3) (by decide) (ceC_3 ad cy _ _ _) dX5_moon_42 h (fun h => ?_)
          refine q_icmp_gt C (tgt := 48) dX5_moon_43 (by decide) h (fun h => ?_) (fun h => ?_)
          · exact q_sub [0, 1, 2] rfl (hj48 () h)
          · refine q_iconst C (v := -1) dX5_moon_46 (by decide) ?_
            exact q_iret C rfl dX5_moon_47 h
      · exact q_sub [] rfl (hj25 () h)
abbrev rmX5_land : Room := { frames := 1, cells := 0, slots := 0, locals := 20 }
theorem hyX5_land : yX5_land.cls = RX5 ∧ yX5_land.cls ≠ "java/lang/invoke/MethodHandle" ∧ yX5_land.cls ≠ "java/lang/invoke/VarHandle" ∧ (parseMethodDescriptor yX5_land.desc).map (fun d => d.parameters.length) = some 2 := by decide +kernel
theorem nX5_land_X4 : ∀ w ∈ u_ws RX4 TX4 8, w ∈ wsX5_land := by decide +kernel
theorem nX5_land_X5 : ∀ w ∈ u_ws RX5 TX5 10, w ∈ wsX5_land := by decide +kernel
theorem hX5_land_23 : Cond.fieldLink RX5 23 (TX5 3).1 (TX5 3).2.1 (TX5 3).2.2.1 ∈ wsX5_land := by decide +kernel
theorem hX5_land_93 : Cond.fieldLink RX5 93 (TX4 7).1 (TX4 7).2.1 (TX4 7).2.2.1 ∈ wsX5_land := by decide +kernel
theorem hX5_land_99 : Cond.fieldLink RX5 99 (TX4 1).1 (TX4 1).2.1 (TX4 1).2.2.1 ∈ wsX5_land := by decide +kernel
theorem hX5_land_102 : Cond.fieldLink RX5 102 (TX4 2).1 (TX4 2).2.1 (TX4 2).2.2.1 ∈ wsX5_land := by decide +kernel
def fX5_land (σ : St) (a1 : Int32) (a2 : Int32) : Option (Int32 × St) := qlet (σ.1 2 7) (fun x7 => qlet (fun (y33 : St) => (some ((-1 : Int32), y33))) (fun j33 => (if (6 : Int32) ≤ x7 then (j33 σ) else (if a1 < (-12 : Int32) then (j33 σ) else (if (12 : Int32) < a1 then (j33 σ) else (qcall (fX5_isEvening σ a2) (fun r27 σ27 => if r27 = (0 : Int32) then (j33 σ27) else (qix x7 6 (qlet (sI σ27 4 x7.toNatClampNeg a1) (fun σ44 => qix x7 6 (qlet (sI σ44 5 x7.toNatClampNeg a2) (fun σ54 => qlet (sI σ54 2 7 (x7 + (1 : Int32))) (fun σ62 => qcall (fX5_forgetAnswers σ62) (fun _ σ66 => some (x7, σ66)))))))))))))))
set_option maxHeartbeats 4000000 in
set_option maxRecDepth 100000 in
theorem kX5_land (l : Launch) (D : va_G) (ad : Nat → Nat) (cy : Nat → ClassId) (X : va_W) (A : Nat → Prop) (zs : Nat × Nat × Option Nat) (σ : St) (a1 : Int32) (a2 : Int32) (r0 : Int32) (σ0 : St) (h : fX5_land σ a1 a2 = some (r0, σ0)) : Met l yX5_land wsX5_land rmX5_land (qPc ceC 96 ad cy X A D zs [.ref (ad 0), .int a1, .int a2] σ) (qQi ceC 96 ad cy X A D r0 σ0) 0 0 A := by
  refine Met.ofW (cc := cX5_land) (maxL := 4) (ret := (some .int)) (by decide) rfl ?_
  intro p e s m args below meth c s₁ B hml hv
  obtain ⟨ha, hP, hK, hE, hD⟩ := hv
  have C : qC ceC 96 ad cy X A D zs cX5_land 4 RX5 wsX5_land p s m args meth c (some .int) := ⟨B.exec, B.bytes, hml, findClass_of_methodNamed B.named, atoms_spec (ws := wsX5_land) B.pre, hK, hD, B.returns, B.notSynchronized, hE⟩
  rw [show entryFrame m args 4 = entryFrame m ([.ref (ad 0), .int a1, .int a2] : List Value).toArray 4 by rw [ha]]
  refine q_entry (A := A) (Nat.le_of_ble_eq_true rfl) hP (lv := [(0, .ref (ad 0)), (1, .int a1), (2, .int a2)]) rfl ?_
  unfold fX5_land at h
  refine q_aload_n C dX5_land_0 rfl 0 rfl ?_
  refine q_get C (Cn := RX5) (T := TX5) (Nf := 10) (ci := 5) (id := 0) (k := 3) (v := .ref (ad 2)) nX5_land_X5 (by decide) (ceC_0 ad cy _ _ _) rfl (by decide) rfl hX5_land_23 dX5_land_1 ?_
  refine q_get C (Cn := RX4) (T := TX4) (Nf := 8) (ci := 4) (id := 2) (k := 7) (v := .int (σ.1 2 7)) nX5_land_X4 (by decide) (ceC_2 ad cy _ _ _) rfl (by decide) rfl hX5_land_93 dX5_land_4 ?_
  refine q_istore_nL C dX5_land_7 rfl (by decide) h (lw := fun x7 => [(0, .ref (ad 0)), (1, .int a1), (2, .int a2), (3, .int x7)]) (fun _ => rfl) (fun x7 h => ?_)
  refine q_iload_n C dX5_land_8 rfl 3 rfl ?_
  refine q_bipush C (v := 6) dX5_land_9 (by decide) ?_
  refine q_join (G := fun (y33 : St) => qVi ceC 96 ad cy X A D p l e (headSpec wsX5_land rmX5_land).room s m args below meth c 4 r0 σ0 33 [] [] y33) h (fun y33 h => ?_) (fun j33 hj33 h => ?_)
  · refine q_iconst C (v := -1) dX5_land_33 (by decide) ?_
    exact q_iret C rfl dX5_land_34 h
  refine q_icmp_ge C (tgt := 33) dX5_land_11 (by decide) h (fun h => ?_) (fun h => ?_)
  · exact q_sub [] rfl (hj33 σ h)
  · refine q_iload_n C dX5_land_14 rfl 1 rfl ?_
    refine q_bipush C (v := -12) dX5_land_15 (by decide) ?_
    refine q_icmp_lt C (tgt := 33) dX5_land_17 (by decide) h (fun h => ?_) (fun h => ?_)
    · exact q_sub [] rfl (hj33 σ h)
    · refine q_iload_n C dX5_land_20 rfl 1 rfl ?_
      refine q_bipush C (v := 12) dX5_land_21 (by decide) ?_
      refine q_icmp_gt C (tgt := 33) dX5_land_23 (by decide) h (fun h => ?_) (fun h => ?_)
      · exact q_sub [] rfl (hj33 σ h)
      · refine q_iload_n C dX5_land_26 rfl 2 rfl ?_
        refine q_callSi C (rm := rmX5_isEvening) (As := [.int a2]) (rest := []) (fun r9 σ9 h9 => kX5_isEvening l D ad cy X A zs σ a2 r9 σ9 h9) gX5_land_X5_isEvening rfl rfl rfl hyX5_isEvening ⟨Nat.le_of_ble_eq_true rfl, Nat.le_of_ble_eq_true rfl⟩ rfl rfl (Nat.le_of_ble_eq_true rfl) dX5_land_27 ⟨Nat.zero_le _, Nat.zero_le _⟩ h (fun r27 σ27 h => ?_)
        refine q_if_ne C (tgt := 35) dX5_land_30 (by decide) h (fun h => ?_) (fun h => ?_)
        · refine q_aload_n C dX5_land_35 rfl 0 rfl ?_
          refine q_get C (Cn := RX5) (T := TX5) (Nf := 10) (ci := 5) (id := 0) (k := 3) (v := .ref (ad 2)) nX5_land_X5 (by decide) (ceC_0 ad cy _ _ _) rfl (by decide) rfl hX5_land_23 dX5_land_36 ?_
          refine q_get C (Cn := RX4) (T := TX4) (Nf := 8) (ci := 4) (id := 2) (k := 1) (v := .ref (ad 4)) nX5_land_X4 (by decide) (ceC_2 ad cy _ _ _) rfl (by decide) rfl hX5_land_99 dX5_land_39 ?_
          refine q_iload_n C dX5_land_42 rfl 3 rfl ?_
          refine q_iload_n C dX5_land_43 rfl 1 rfl ?_
          refine q_iast C (id := 4) (by decide) (fun f g => ceC_4 ad cy _ f g) dX5_land_44 h (fun σ44 h => ?_)
          refine q_aload_n C dX5_land_45 rfl 0 rfl ?_
          refine q_get C (Cn := RX5) (T := TX5) (Nf := 10) (ci := 5) (id := 0) (k := 3) (v := .ref (ad 2)) nX5_land_X5 (by decide) (ceC_0 ad cy _ _ _) rfl (by decide) rfl hX5_land_23 dX5_land_46 ?_
          refine q_get C (Cn := RX4) (T := TX4) (Nf := 8) (ci := 4) (id := 2) (k := 2) (v := .ref (ad 5)) nX5_land_X4 (by decide) (ceC_2 ad cy _ _ _) rfl (by decide) rfl hX5_land_102 dX5_land_49 ?_
          refine q_iload_n C dX5_land_52 rfl 3 rfl ?_
          refine q_iload_n C dX5_land_53 rfl 2 rfl ?_
          refine q_iast C (id := 5) (by decide) (fun f g => ceC_5 ad cy _ f g) dX5_land_54 h (fun σ54 h => ?_)
          refine q_aload_n C dX5_land_55 rfl 0 rfl ?_
          refine q_get C (Cn := RX5) (T := TX5) (Nf := 10) (ci := 5) (id := 0) (k := 3) (v := .ref (ad 2)) nX5_land_X5 (by decide) (ceC_0 ad cy _ _ _) rfl (by decide) rfl hX5_land_23 dX5_land_56 ?_
          refine q_iload_n C dX5_land_59 rfl 3 rfl ?_
          refine q_iconst C (v := 1) dX5_land_60 (by decide) ?_
          refine q_iadd C dX5_land_61 ?_
          refine q_put C (Cn := RX4) (T := TX4) (ty0 := tyX4) (Nf := 8) (ci := 4) (id := 2) (k := 7) (y := 0) tyX4_ok nmX4 nX5_land_X4 (by decide) (ceC_2 ad cy _ _ _) (ceC_2 ad cy _ _ _) rfl (by decide) rfl (by decide +kernel) (Nat.le_of_ble_eq_true rfl) hX5_land_93 dX5_land_62 h (fun σ62 h => ?_)
          refine q_aload_n C dX5_land_65 rfl 0 rfl ?_
          refine q_callVv C (rm := rmX5_forgetAnswers) (As := []) (rest := []) (id := 0) (ci := 5) (fun r9 σ9 h9 => kX5_forgetAnswers l D ad cy X A zs σ62 r9 σ9 h9) gX5_land_X5_forgetAnswers rfl rfl rfl hyX5_forgetAnswers ⟨Nat.le_of_ble_eq_true rfl, Nat.le_of_ble_eq_true rfl⟩ (by decide) (ceC_0 ad cy _ _ _) rfl rfl rfl (Nat.le_of_ble_eq_true rfl) dX5_land_66 ⟨Nat.zero_le _, Nat.zero_le _⟩ h (fun r66 σ66 h => ?_)
          refine q_iload_n C dX5_land_69 rfl 3 rfl ?_
          exact q_iret C rfl dX5_land_70 h
        · exact q_sub [] rfl (hj33 σ27 h)
abbrev rmX5_table : Room := { frames := 1, cells := 0, slots := 0, locals := 23 }
theorem hyX5_table : yX5_table.cls = RX5 ∧ yX5_table.cls ≠ "java/lang/invoke/MethodHandle" ∧ yX5_table.cls ≠ "java/lang/invoke/VarHandle" ∧ (parseMethodDescriptor yX5_table.desc).map (fun d => d.parameters.length) = some 2 := by decide +kernel
theorem nX5_table_X4 : ∀ w ∈ u_ws RX4 TX4 8, w ∈ wsX5_table := by decide +kernel
theorem nX5_table_X5 : ∀ w ∈ u_ws RX5 TX5 10, w ∈ wsX5_table := by decide +kernel
theorem hX5_table_23 : Cond.fieldLink RX5 23 (TX5 3).1 (TX5 3).2.1 (TX5 3).2.2.1 ∈ wsX5_table := by decide +kernel
theorem hX5_table_105 : Cond.fieldLink RX5 105 (TX4 3).1 (TX4 3).2.1 (TX4 3).2.2.1 ∈ wsX5_table := by decide +kernel
theorem hX5_table_115 : Cond.fieldLink RX5 115 (TX4 4).1 (TX4 4).2.1 (TX4 4).2.2.1 ∈ wsX5_table := by decide +kernel
def fX5_table (σ : St) (a1 : Int32) (a2 : Int32) : Option (Int32 × St) := qcall (fX4_isLand σ a1) (fun r5 σ5 => qlet (fun (y26 : Unit) => (qzz (0 : Int32) (some ((0 : Int32), σ5)))) (fun j26 => (if r5 = (0 : Int32) then (j26 ()) else (if a2 = (0 : Int32) then (j26 ()) else (if a2 < (-1 : Int32) then (j26 ()) else (if a2 ≤ (60 : Int32) then (qix a1 6 (qcall (fFillB σ5 (7 + a1.toNatClampNeg) 60 (0 : Int32)) (fun _ σ38 => qlet (fun (y59 : Int32) => (qix a1 6 (qlet (sI σ38 13 a1.toNatClampNeg y59) (fun σ59 => qcall (fX5_forgetAnswers σ59) (fun _ σ61 => qzz (1 : Int32) (some ((1 : Int32), σ61))))))) (fun j59 => (if a2 = (-1 : Int32) then (j59 (0 : Int32)) else (j59 a2)))))) else (j26 ())))))))
set_option maxHeartbeats 4000000 in
set_option maxRecDepth 100000 in
theorem kX5_table (l : Launch) (D : va_G) (ad : Nat → Nat) (cy : Nat → ClassId) (X : va_W) (A : Nat → Prop) (zs : Nat × Nat × Option Nat) (σ : St) (a1 : Int32) (a2 : Int32) (r0 : Int32) (σ0 : St) (h : fX5_table σ a1 a2 = some (r0, σ0)) : Met l yX5_table wsX5_table rmX5_table (qPc ceC 96 ad cy X A D zs [.ref (ad 0), .int a1, .int a2] σ) (qQi ceC 96 ad cy X A D r0 σ0) 0 0 A := by
  refine Met.ofW (cc := cX5_table) (maxL := 3) (ret := (some .boolean)) (by decide) rfl ?_
  intro p e s m args below meth c s₁ B hml hv
  obtain ⟨ha, hP, hK, hE, hD⟩ := hv
  have C : qC ceC 96 ad cy X A D zs cX5_table 3 RX5 wsX5_table p s m args meth c (some .boolean) := ⟨B.exec, B.bytes, hml, findClass_of_methodNamed B.named, atoms_spec (ws := wsX5_table) B.pre, hK, hD, B.returns, B.notSynchronized, hE⟩
  rw [show entryFrame m args 3 = entryFrame m ([.ref (ad 0), .int a1, .int a2] : List Value).toArray 3 by rw [ha]]
  refine q_entry (A := A) (Nat.le_of_ble_eq_true rfl) hP (lv := [(0, .ref (ad 0)), (1, .int a1), (2, .int a2)]) rfl ?_
  unfold fX5_table at h
  refine q_aload_n C dX5_table_0 rfl 0 rfl ?_
  refine q_get C (Cn := RX5) (T := TX5) (Nf := 10) (ci := 5) (id := 0) (k := 3) (v := .ref (ad 2)) nX5_table_X5 (by decide) (ceC_0 ad cy _ _ _) rfl (by decide) rfl hX5_table_23 dX5_table_1 ?_
  refine q_iload_n C dX5_table_4 rfl 1 rfl ?_
  refine q_callVi C (rm := rmX4_isLand) (As := [.int a1]) (rest := []) (id := 2) (ci := 4) (fun r9 σ9 h9 => kX4_isLand l D ad cy X A zs σ a1 r9 σ9 h9) gX5_table_X4_isLand rfl rfl rfl hyX4_isLand ⟨Nat.le_of_ble_eq_true rfl, Nat.le_of_ble_eq_true rfl⟩ (by decide) (ceC_2 ad cy _ _ _) rfl rfl rfl (Nat.le_of_ble_eq_true rfl) dX5_table_5 ⟨Nat.zero_le _, Nat.zero_le _⟩ h (fun r5 σ5 h => ?_)
  refine q_join (G := fun (y26 : Unit) => qVi ceC 96 ad cy X A D p l e (headSpec wsX5_table rmX5_table).room s m args below meth c 3 r0 σ0 26 [] [] σ5) h (fun y26 h => ?_) (fun j26 hj26 h => ?_)
  · refine q_iconst C (v := 0) dX5_table_26 (by decide) ?_
    exact q_zret C rfl dX5_table_27 h
  refine q_if_eq C (tgt := 26) dX5_table_8 (by decide) h (fun h => ?_) (fun h => ?_)
  · exact q_sub [] rfl (hj26 () h)
  · refine q_iload_n C dX5_table_11 rfl 2 rfl ?_
    refine q_if_eq C (tgt := 26) dX5_table_12 (by decide) h (fun h => ?_) (fun h => ?_)
    · exact q_sub [] rfl (hj26 () h)
    · refine q_iload_n C dX5_table_15 rfl 2 rfl ?_
      refine q_iconst C (v := -1) dX5_table_16 (by decide) ?_
      refine q_icmp_lt C (tgt := 26) dX5_table_17 (by decide) h (fun h => ?_) (fun h => ?_)
      · exact q_sub [] rfl (hj26 () h)
      · refine q_iload_n C dX5_table_20 rfl 2 rfl ?_
        refine q_bipush C (v := 60) dX5_table_21 (by decide) ?_
        refine q_icmp_le C (tgt := 28) dX5_table_23 (by decide) h (fun h => ?_) (fun h => ?_)
        · refine q_aload_n C dX5_table_28 rfl 0 rfl ?_
          refine q_get C (Cn := RX5) (T := TX5) (Nf := 10) (ci := 5) (id := 0) (k := 3) (v := .ref (ad 2)) nX5_table_X5 (by decide) (ceC_0 ad cy _ _ _) rfl (by decide) rfl hX5_table_23 dX5_table_29 ?_
          refine q_get C (Cn := RX4) (T := TX4) (Nf := 8) (ci := 4) (id := 2) (k := 3) (v := .ref (ad 6)) nX5_table_X4 (by decide) (ceC_2 ad cy _ _ _) rfl (by decide) rfl hX5_table_105 dX5_table_32 ?_
          refine q_iload_n C dX5_table_35 rfl 1 rfl ?_
          refine q_aald C (id := 6) (t0 := 5) (by decide) (ceC_6 ad cy _ _ _) rfl rfl dX5_table_36 h (fun _ => rfl) (fun hr36 h => ?_)
          refine q_iconst C (v := 0) dX5_table_37 (by decide) ?_
          refine q_callSv C (rm := rmJ7_fill_031fb) (As := [.ref (ad (7 + a1.toNatClampNeg)), .int (0 : Int32)]) (rest := []) (fun r9 σ9 h9 => kFillB l D ad cy X A zs σ5 (7 + a1.toNatClampNeg) 60 (0 : Int32) (by omega) (fun T f g => ceC_r7 ad cy T f g hr36) (by decide) r9 σ9 h9) gX5_table_J7_fill_031fb rfl rfl rfl hyJ7_fill_031fb ⟨Nat.le_of_ble_eq_true rfl, Nat.le_of_ble_eq_true rfl⟩ rfl rfl (Nat.le_of_ble_eq_true rfl) dX5_table_38 ⟨Nat.zero_le _, Nat.zero_le _⟩ h (fun r38 σ38 h => ?_)
          refine q_aload_n C dX5_table_41 rfl 0 rfl ?_
          refine q_get C (Cn := RX5) (T := TX5) (Nf := 10) (ci := 5) (id := 0) (k := 3) (v := .ref (ad 2)) nX5_table_X5 (by decide) (ceC_0 ad cy _ _ _) rfl (by decide) rfl hX5_table_23 dX5_table_42 ?_
          refine q_get C (Cn := RX4) (T := TX4) (Nf := 8) (ci := 4) (id := 2) (k := 4) (v := .ref (ad 13)) nX5_table_X4 (by decide) (ceC_2 ad cy _ _ _) rfl (by decide) rfl hX5_table_115 dX5_table_45 ?_
          refine q_iload_n C dX5_table_48 rfl 1 rfl ?_
          refine q_iload_n C dX5_table_49 rfl 2 rfl ?_
          refine q_iconst C (v := -1) dX5_table_50 (by decide) ?_
          refine q_join (G := fun (y59 : Int32) => qVi ceC 96 ad cy X A D p l e (headSpec wsX5_table rmX5_table).room s m args below meth c 3 r0 σ0 59 [(0, .ref (ad 0))] [.int y59, .int a1, .ref (ad 13)] σ38) h (fun y59 h => ?_) (fun j59 hj59 h => ?_)
          · refine q_iast C (id := 13) (by decide) (fun f g => ceC_13 ad cy _ f g) dX5_table_59 h (fun σ59 h => ?_)
            refine q_aload_n C dX5_table_60 rfl 0 rfl ?_
            refine q_callVv C (rm := rmX5_forgetAnswers) (As := []) (rest := []) (id := 0) (ci := 5) (fun r9 σ9 h9 => kX5_forgetAnswers l D ad cy X A zs σ59 r9 σ9 h9) gX5_table_X5_forgetAnswers rfl rfl rfl hyX5_forgetAnswers ⟨Nat.le_of_ble_eq_true rfl, Nat.le_of_ble_eq_true rfl⟩ (by decide) (ceC_0 ad cy _ _ _) rfl rfl rfl (Nat.le_of_ble_eq_true rfl) dX5_table_61 ⟨Nat.zero_le _, Nat.zero_le _⟩ h (fun r61 σ61 h => ?_)
            refine q_iconst C (v := 1) dX5_table_64 (by decide) ?_
            exact q_zret C rfl dX5_table_65 h
          refine q_icmp_ne C (tgt := 58) dX5_table_51 (by decide) h (fun h => ?_) (fun h => ?_)
          · refine q_iload_n C dX5_table_58 rfl 2 rfl ?_
            exact q_sub [0] rfl (hj59 a2 h)
          · refine q_iconst C (v := 0) dX5_table_54 (by decide) ?_
            refine q_goto C (tgt := 59) dX5_table_55 (by decide) ?_
            exact q_sub [0] rfl (hj59 (0 : Int32) h)
        · exact q_sub [] rfl (hj26 () h)
abbrev rmX5_cell : Room := { frames := 1, cells := 0, slots := 0, locals := 21 }
theorem hyX5_cell : yX5_cell.cls = RX5 ∧ yX5_cell.cls ≠ "java/lang/invoke/MethodHandle" ∧ yX5_cell.cls ≠ "java/lang/invoke/VarHandle" ∧ (parseMethodDescriptor yX5_cell.desc).map (fun d => d.parameters.length) = some 3 := by decide +kernel
theorem nX5_cell_X4 : ∀ w ∈ u_ws RX4 TX4 8, w ∈ wsX5_cell := by decide +kernel
theorem nX5_cell_X5 : ∀ w ∈ u_ws RX5 TX5 10, w ∈ wsX5_cell := by decide +kernel
theorem hX5_cell_23 : Cond.fieldLink RX5 23 (TX5 3).1 (TX5 3).2.1 (TX5 3).2.2.1 ∈ wsX5_cell := by decide +kernel
theorem hX5_cell_115 : Cond.fieldLink RX5 115 (TX4 4).1 (TX4 4).2.1 (TX4 4).2.2.1 ∈ wsX5_cell := by decide +kernel
theorem hX5_cell_105 : Cond.fieldLink RX5 105 (TX4 3).1 (TX4 3).2.1 (TX4 3).2.2.1 ∈ wsX5_cell := by decide +kernel
def fX5_cell (σ : St) (a1 : Int32) (a2 : Int32) (a3 : Int32) : Option (Int32 × St) := qcall (fX4_isLand σ a1) (fun r5 σ5 => qlet (fun (y28 : Unit) => (qzz (0 : Int32) (some ((0 : Int32), σ5)))) (fun j28 => (if r5 = (0 : Int32) then (j28 ()) else (if a2 < (0 : Int32) then (j28 ()) else (qix a1 6 (if a2 < (σ5.1 13 a1.toNatClampNeg) then (qlet (fun (y39 : Unit) => (qzz (0 : Int32) (some ((0 : Int32), σ5)))) (fun j39 => (if a3 < (0 : Int32) then (j39 ()) else (if a3 ≤ (2 : Int32) then (qix a1 6 (qix a2 60 (qlet (sI σ5 (7 + a1.toNatClampNeg) a2.toNatClampNeg (vp_nar .byte a3.toInt8.toInt32)) (fun σ53 => qcall (fX5_forgetAnswers σ53) (fun _ σ55 => qzz (1 : Int32) (some ((1 : Int32), σ55))))))) else (j39 ()))))) else (j28 ())))))))
set_option maxHeartbeats 4000000 in
set_option maxRecDepth 100000 in
theorem kX5_cell (l : Launch) (D : va_G) (ad : Nat → Nat) (cy : Nat → ClassId) (X : va_W) (A : Nat → Prop) (zs : Nat × Nat × Option Nat) (σ : St) (a1 : Int32) (a2 : Int32) (a3 : Int32) (r0 : Int32) (σ0 : St) (h : fX5_cell σ a1 a2 a3 = some (r0, σ0)) : Met l yX5_cell wsX5_cell rmX5_cell (qPc ceC 96 ad cy X A D zs [.ref (ad 0), .int a1, .int a2, .int a3] σ) (qQi ceC 96 ad cy X A D r0 σ0) 0 0 A := by
  refine Met.ofW (cc := cX5_cell) (maxL := 4) (ret := (some .boolean)) (by decide) rfl ?_
  intro p e s m args below meth c s₁ B hml hv
  obtain ⟨ha, hP, hK, hE, hD⟩ := hv
  have C : qC ceC 96 ad cy X A D zs cX5_cell 4 RX5 wsX5_cell p s m args meth c (some .boolean) := ⟨B.exec, B.bytes, hml, findClass_of_methodNamed B.named, atoms_spec (ws := wsX5_cell) B.pre, hK, hD, B.returns, B.notSynchronized, hE⟩
  rw [show entryFrame m args 4 = entryFrame m ([.ref (ad 0), .int a1, .int a2, .int a3] : List Value).toArray 4 by rw [ha]]
  refine q_entry (A := A) (Nat.le_of_ble_eq_true rfl) hP (lv := [(0, .ref (ad 0)), (1, .int a1), (2, .int a2), (3, .int a3)]) rfl ?_
  unfold fX5_cell at h
  refine q_aload_n C dX5_cell_0 rfl 0 rfl ?_
  refine q_get C (Cn := RX5) (T := TX5) (Nf := 10) (ci := 5) (id := 0) (k := 3) (v := .ref (ad 2)) nX5_cell_X5 (by decide) (ceC_0 ad cy _ _ _) rfl (by decide) rfl hX5_cell_23 dX5_cell_1 ?_
  refine q_iload_n C dX5_cell_4 rfl 1 rfl ?_
  refine q_callVi C (rm := rmX4_isLand) (As := [.int a1]) (rest := []) (id := 2) (ci := 4) (fun r9 σ9 h9 => kX4_isLand l D ad cy X A zs σ a1 r9 σ9 h9) gX5_cell_X4_isLand rfl rfl rfl hyX4_isLand ⟨Nat.le_of_ble_eq_true rfl, Nat.le_of_ble_eq_true rfl⟩ (by decide) (ceC_2 ad cy _ _ _) rfl rfl rfl (Nat.le_of_ble_eq_true rfl) dX5_cell_5 ⟨Nat.zero_le _, Nat.zero_le _⟩ h (fun r5 σ5 h => ?_)
  refine q_join (G := fun (y28 : Unit) => qVi ceC 96 ad cy X A D p l e (headSpec wsX5_cell rmX5_cell).room s m args below meth c 4 r0 σ0 28 [] [] σ5) h (fun y28 h => ?_) (fun j28 hj28 h => ?_)
  · refine q_iconst C (v := 0) dX5_cell_28 (by decide) ?_
    exact q_zret C rfl dX5_cell_29 h
  refine q_if_eq C (tgt := 28) dX5_cell_8 (by decide) h (fun h => ?_) (fun h => ?_)
  · exact q_sub [] rfl (hj28 () h)
  · refine q_iload_n C dX5_cell_11 rfl 2 rfl ?_
    refine q_if_lt C (tgt := 28) dX5_cell_12 (by decide) h (fun h => ?_) (fun h => ?_)
    · exact q_sub [] rfl (hj28 () h)
    · refine q_iload_n C dX5_cell_15 rfl 2 rfl ?_
      refine q_aload_n C dX5_cell_16 rfl 0 rfl ?_
      refine q_get C (Cn := RX5) (T := TX5) (Nf := 10) (ci := 5) (id := 0) (k := 3) (v := .ref (ad 2)) nX5_cell_X5 (by decide) (ceC_0 ad cy _ _ _) rfl (by decide) rfl hX5_cell_23 dX5_cell_17 ?_
      refine q_get C (Cn := RX4) (T := TX4) (Nf := 8) (ci := 4) (id := 2) (k := 4) (v := .ref (ad 13)) nX5_cell_X4 (by decide) (ceC_2 ad cy _ _ _) rfl (by decide) rfl hX5_cell_115 dX5_cell_20 ?_
      refine q_iload_n C dX5_cell_23 rfl 1 rfl ?_
      refine q_iald C (id := 13) (by decide) (ceC_13 ad cy _ _ _) dX5_cell_24 h (fun h => ?_)
      refine q_icmp_lt C (tgt := 30) dX5_cell_25 (by decide) h (fun h => ?_) (fun h => ?_)
      · refine q_iload_n C dX5_cell_30 rfl 3 rfl ?_
        refine q_join (G := fun (y39 : Unit) => qVi ceC 96 ad cy X A D p l e (headSpec wsX5_cell rmX5_cell).room s m args below meth c 4 r0 σ0 39 [] [] σ5) h (fun y39 h => ?_) (fun j39 hj39 h => ?_)
        · refine q_iconst C (v := 0) dX5_cell_39 (by decide) ?_
          exact q_zret C rfl dX5_cell_40 h
        refine q_if_lt C (tgt := 39) dX5_cell_31 (by decide) h (fun h => ?_) (fun h => ?_)
        · exact q_sub [] rfl (hj39 () h)
        · refine q_iload_n C dX5_cell_34 rfl 3 rfl ?_
          refine q_iconst C (v := 2) dX5_cell_35 (by decide) ?_
          refine q_icmp_le C (tgt := 41) dX5_cell_36 (by decide) h (fun h => ?_) (fun h => ?_)
          · refine q_aload_n C dX5_cell_41 rfl 0 rfl ?_
            refine q_get C (Cn := RX5) (T := TX5) (Nf := 10) (ci := 5) (id := 0) (k := 3) (v := .ref (ad 2)) nX5_cell_X5 (by decide) (ceC_0 ad cy _ _ _) rfl (by decide) rfl hX5_cell_23 dX5_cell_42 ?_
            refine q_get C (Cn := RX4) (T := TX4) (Nf := 8) (ci := 4) (id := 2) (k := 3) (v := .ref (ad 6)) nX5_cell_X4 (by decide) (ceC_2 ad cy _ _ _) rfl (by decide) rfl hX5_cell_105 dX5_cell_45 ?_
            refine q_iload_n C dX5_cell_48 rfl 1 rfl ?_
            refine q_aald C (id := 6) (t0 := 5) (by decide) (ceC_6 ad cy _ _ _) rfl rfl dX5_cell_49 h (fun _ => rfl) (fun hr49 h => ?_)
            refine q_iload_n C dX5_cell_50 rfl 2 rfl ?_
            refine q_iload_n C dX5_cell_51 rfl 3 rfl ?_
            refine q_i2b C dX5_cell_52 ?_
            refine q_bast C (id := (7 + a1.toNatClampNeg)) (by omega) (fun f g => ceC_r7 ad cy _ f g hr49) dX5_cell_53 h (fun σ53 h => ?_)
            refine q_aload_n C dX5_cell_54 rfl 0 rfl ?_
            refine q_callVv C (rm := rmX5_forgetAnswers) (As := []) (rest := []) (id := 0) (ci := 5) (fun r9 σ9 h9 => kX5_forgetAnswers l D ad cy X A zs σ53 r9 σ9 h9) gX5_cell_X5_forgetAnswers rfl rfl rfl hyX5_forgetAnswers ⟨Nat.le_of_ble_eq_true rfl, Nat.le_of_ble_eq_true rfl⟩ (by decide) (ceC_0 ad cy _ _ _) rfl rfl rfl (Nat.le_of_ble_eq_true rfl) dX5_cell_55 ⟨Nat.zero_le _, Nat.zero_le _⟩ h (fun r55 σ55 h => ?_)
            refine q_iconst C (v := 1) dX5_cell_58 (by decide) ?_
            exact q_zret C rfl dX5_cell_59 h
          · exact q_sub [] rfl (hj39 () h)
      · exact q_sub [] rfl (hj28 () h)
abbrev rmX5_travel : Room := { frames := 1, cells := 0, slots := 0, locals := 21 }
theorem hyX5_travel : yX5_travel.cls = RX5 ∧ yX5_travel.cls ≠ "java/lang/invoke/MethodHandle" ∧ yX5_travel.cls ≠ "java/lang/invoke/VarHandle" ∧ (parseMethodDescriptor yX5_travel.desc).map (fun d => d.parameters.length) = some 3 := by decide +kernel
theorem nX5_travel_X4 : ∀ w ∈ u_ws RX4 TX4 8, w ∈ wsX5_travel := by decide +kernel
theorem nX5_travel_X5 : ∀ w ∈ u_ws RX5 TX5 10, w ∈ wsX5_travel := by decide +kernel
theorem hX5_travel_23 : Cond.fieldLink RX5 23 (TX5 3).1 (TX5 3).2.1 (TX5 3).2.2.1 ∈ wsX5_travel := by decide +kernel
theorem hX5_travel_118 : Cond.fieldLink RX5 118 (TX4 5).1 (TX4 5).2.1 (TX4 5).2.2.1 ∈ wsX5_travel := by decide +kernel
theorem hX5_travel_122 : Cond.constant RX5 122 (1000000) ∈ wsX5_travel := by decide +kernel
def fX5_travel (σ : St) (a1 : Int32) (a2 : Int32) (a3 : Int32) : Option (Int32 × St) := qcall (fX4_isLand σ a1) (fun r5 σ5 => qlet (fun (y27 : St) => (qzz (0 : Int32) (some ((0 : Int32), y27)))) (fun j27 => (if r5 = (0 : Int32) then (j27 σ5) else (qcall (fX4_isLand σ5 a2) (fun r16 σ16 => if r16 = (0 : Int32) then (j27 σ16) else (if a1 = a2 then (j27 σ16) else (qlet (fun (y40 : Unit) => (qzz (0 : Int32) (some ((0 : Int32), σ16)))) (fun j40 => (if a3 < (-1 : Int32) then (j40 ()) else (if a3 ≤ (60 : Int32) then (qix a1 6 (qlet (fun (y63 : Int32) => (qix a2 6 (qlet (sI σ16 (15 + a1.toNatClampNeg) a2.toNatClampNeg y63) (fun σ63 => qcall (fX5_forgetAnswers σ63) (fun _ σ65 => qzz (1 : Int32) (some ((1 : Int32), σ65))))))) (fun j63 => (if a3 = (-1 : Int32) then (j63 (1000000 : Int32)) else (j63 a3))))) else (j40 ())))))))))))
set_option maxHeartbeats 4000000 in
set_option maxRecDepth 100000 in
theorem kX5_travel (l : Launch) (D : va_G) (ad : Nat → Nat) (cy : Nat → ClassId) (X : va_W) (A : Nat → Prop) (zs : Nat × Nat × Option Nat) (σ : St) (a1 : Int32) (a2 : Int32) (a3 : Int32) (r0 : Int32) (σ0 : St) (h : fX5_travel σ a1 a2 a3 = some (r0, σ0)) : Met l yX5_travel wsX5_travel rmX5_travel (qPc ceC 96 ad cy X A D zs [.ref (ad 0), .int a1, .int a2, .int a3] σ) (qQi ceC 96 ad cy X A D r0 σ0) 0 0 A := by
  refine Met.ofW (cc := cX5_travel) (maxL := 4) (ret := (some .boolean)) (by decide) rfl ?_
  intro p e s m args below meth c s₁ B hml hv
  obtain ⟨ha, hP, hK, hE, hD⟩ := hv
  have C : qC ceC 96 ad cy X A D zs cX5_travel 4 RX5 wsX5_travel p s m args meth c (some .boolean) := ⟨B.exec, B.bytes, hml, findClass_of_methodNamed B.named, atoms_spec (ws := wsX5_travel) B.pre, hK, hD, B.returns, B.notSynchronized, hE⟩
  rw [show entryFrame m args 4 = entryFrame m ([.ref (ad 0), .int a1, .int a2, .int a3] : List Value).toArray 4 by rw [ha]]
  refine q_entry (A := A) (Nat.le_of_ble_eq_true rfl) hP (lv := [(0, .ref (ad 0)), (1, .int a1), (2, .int a2), (3, .int a3)]) rfl ?_
  unfold fX5_travel at h
  refine q_aload_n C dX5_travel_0 rfl 0 rfl ?_
  refine q_get C (Cn := RX5) (T := TX5) (Nf := 10) (ci := 5) (id := 0) (k := 3) (v := .ref (ad 2)) nX5_travel_X5 (by decide) (ceC_0 ad cy _ _ _) rfl (by decide) rfl hX5_travel_23 dX5_travel_1 ?_
  refine q_iload_n C dX5_travel_4 rfl 1 rfl ?_
  refine q_callVi C (rm := rmX4_isLand) (As := [.int a1]) (rest := []) (id := 2) (ci := 4) (fun r9 σ9 h9 => kX4_isLand l D ad cy X A zs σ a1 r9 σ9 h9) gX5_travel_X4_isLand rfl rfl rfl hyX4_isLand ⟨Nat.le_of_ble_eq_true rfl, Nat.le_of_ble_eq_true rfl⟩ (by decide) (ceC_2 ad cy _ _ _) rfl rfl rfl (Nat.le_of_ble_eq_true rfl) dX5_travel_5 ⟨Nat.zero_le _, Nat.zero_le _⟩ h (fun r5 σ5 h => ?_)
  refine q_join (G := fun (y27 : St) => qVi ceC 96 ad cy X A D p l e (headSpec wsX5_travel rmX5_travel).room s m args below meth c 4 r0 σ0 27 [] [] y27) h (fun y27 h => ?_) (fun j27 hj27 h => ?_)
  · refine q_iconst C (v := 0) dX5_travel_27 (by decide) ?_
    exact q_zret C rfl dX5_travel_28 h
  refine q_if_eq C (tgt := 27) dX5_travel_8 (by decide) h (fun h => ?_) (fun h => ?_)
  · exact q_sub [] rfl (hj27 σ5 h)
  · refine q_aload_n C dX5_travel_11 rfl 0 rfl ?_
    refine q_get C (Cn := RX5) (T := TX5) (Nf := 10) (ci := 5) (id := 0) (k := 3) (v := .ref (ad 2)) nX5_travel_X5 (by decide) (ceC_0 ad cy _ _ _) rfl (by decide) rfl hX5_travel_23 dX5_travel_12 ?_
    refine q_iload_n C dX5_travel_15 rfl 2 rfl ?_
    refine q_callVi C (rm := rmX4_isLand) (As := [.int a2]) (rest := []) (id := 2) (ci := 4) (fun r9 σ9 h9 => kX4_isLand l D ad cy X A zs σ5 a2 r9 σ9 h9) gX5_travel_X4_isLand rfl rfl rfl hyX4_isLand ⟨Nat.le_of_ble_eq_true rfl, Nat.le_of_ble_eq_true rfl⟩ (by decide) (ceC_2 ad cy _ _ _) rfl rfl rfl (Nat.le_of_ble_eq_true rfl) dX5_travel_16 ⟨Nat.zero_le _, Nat.zero_le _⟩ h (fun r16 σ16 h => ?_)
    refine q_if_eq C (tgt := 27) dX5_travel_19 (by decide) h (fun h => ?_) (fun h => ?_)
    · exact q_sub [] rfl (hj27 σ16 h)
    · refine q_iload_n C dX5_travel_22 rfl 1 rfl ?_
      refine q_iload_n C dX5_travel_23 rfl 2 rfl ?_
      refine q_icmp_ne C (tgt := 29) dX5_travel_24 (by decide) h (fun h => ?_) (fun h => ?_)
      · refine q_iload_n C dX5_travel_29 rfl 3 rfl ?_
        refine q_iconst C (v := -1) dX5_travel_30 (by decide) ?_
        refine q_join (G := fun (y40 : Unit) => qVi ceC 96 ad cy X A D p l e (headSpec wsX5_travel rmX5_travel).room s m args below meth c 4 r0 σ0 40 [] [] σ16) h (fun y40 h => ?_) (fun j40 hj40 h => ?_)
        · refine q_iconst C (v := 0) dX5_travel_40 (by decide) ?_
          exact q_zret C rfl dX5_travel_41 h
        refine q_icmp_lt C (tgt := 40) dX5_travel_31 (by decide) h (fun h => ?_) (fun h => ?_)
        · exact q_sub [] rfl (hj40 () h)
        · refine q_iload_n C dX5_travel_34 rfl 3 rfl ?_
          refine q_bipush C (v := 60) dX5_travel_35 (by decide) ?_
          refine q_icmp_le C (tgt := 42) dX5_travel_37 (by decide) h (fun h => ?_) (fun h => ?_)
          · refine q_aload_n C dX5_travel_42 rfl 0 rfl ?_
            refine q_get C (Cn := RX5) (T := TX5) (Nf := 10) (ci := 5) (id := 0) (k := 3) (v := .ref (ad 2)) nX5_travel_X5 (by decide) (ceC_0 ad cy _ _ _) rfl (by decide) rfl hX5_travel_23 dX5_travel_43 ?_
            refine q_get C (Cn := RX4) (T := TX4) (Nf := 8) (ci := 4) (id := 2) (k := 5) (v := .ref (ad 14)) nX5_travel_X4 (by decide) (ceC_2 ad cy _ _ _) rfl (by decide) rfl hX5_travel_118 dX5_travel_46 ?_
            refine q_iload_n C dX5_travel_49 rfl 1 rfl ?_
            refine q_aald C (id := 14) (t0 := 6) (by decide) (ceC_14 ad cy _ _ _) rfl rfl dX5_travel_50 h (fun _ => rfl) (fun hr50 h => ?_)
            refine q_iload_n C dX5_travel_51 rfl 2 rfl ?_
            refine q_iload_n C dX5_travel_52 rfl 3 rfl ?_
            refine q_iconst C (v := -1) dX5_travel_53 (by decide) ?_
            refine q_join (G := fun (y63 : Int32) => qVi ceC 96 ad cy X A D p l e (headSpec wsX5_travel rmX5_travel).room s m args below meth c 4 r0 σ0 63 [(0, .ref (ad 0))] [.int y63, .int a2, .ref (ad (15 + a1.toNatClampNeg))] σ16) h (fun y63 h => ?_) (fun j63 hj63 h => ?_)
            · refine q_iast C (id := (15 + a1.toNatClampNeg)) (by omega) (fun f g => ceC_r15 ad cy _ f g hr50) dX5_travel_63 h (fun σ63 h => ?_)
              refine q_aload_n C dX5_travel_64 rfl 0 rfl ?_
              refine q_callVv C (rm := rmX5_forgetAnswers) (As := []) (rest := []) (id := 0) (ci := 5) (fun r9 σ9 h9 => kX5_forgetAnswers l D ad cy X A zs σ63 r9 σ9 h9) gX5_travel_X5_forgetAnswers rfl rfl rfl hyX5_forgetAnswers ⟨Nat.le_of_ble_eq_true rfl, Nat.le_of_ble_eq_true rfl⟩ (by decide) (ceC_0 ad cy _ _ _) rfl rfl rfl (Nat.le_of_ble_eq_true rfl) dX5_travel_65 ⟨Nat.zero_le _, Nat.zero_le _⟩ h (fun r65 σ65 h => ?_)
              refine q_iconst C (v := 1) dX5_travel_68 (by decide) ?_
              exact q_zret C rfl dX5_travel_69 h
            refine q_icmp_ne C (tgt := 62) dX5_travel_54 (by decide) h (fun h => ?_) (fun h => ?_)
            · refine q_iload_n C dX5_travel_62 rfl 3 rfl ?_
              exact q_sub [0] rfl (hj63 a3 h)
            · refine q_ldc C (v := 1000000) dX5_travel_57 hX5_travel_122 ?_
              refine q_goto C (tgt := 63) dX5_travel_59 (by decide) ?_
              exact q_sub [0] rfl (hj63 (1000000 : Int32) h)
          · exact q_sub [] rfl (hj40 () h)
      · exact q_sub [] rfl (hj27 σ16 h)
abbrev rmX5_witness : Room := { frames := 1, cells := 0, slots := 0, locals := 21 }
theorem hyX5_witness : yX5_witness.cls = RX5 ∧ yX5_witness.cls ≠ "java/lang/invoke/MethodHandle" ∧ yX5_witness.cls ≠ "java/lang/invoke/VarHandle" ∧ (parseMethodDescriptor yX5_witness.desc).map (fun d => d.parameters.length) = some 1 := by decide +kernel
theorem nX5_witness_X0 : ∀ w ∈ u_ws RX0 TX0 9, w ∈ wsX5_witness := by decide +kernel
theorem nX5_witness_X5 : ∀ w ∈ u_ws RX5 TX5 10, w ∈ wsX5_witness := by decide +kernel
theorem hX5_witness_32 : Cond.fieldLink RX5 32 (TX5 4).1 (TX5 4).2.1 (TX5 4).2.2.1 ∈ wsX5_witness := by decide +kernel
theorem hX5_witness_123 : Cond.fieldLink RX5 123 (TX0 6).1 (TX0 6).2.1 (TX0 6).2.2.1 ∈ wsX5_witness := by decide +kernel
theorem hX5_witness_23 : Cond.fieldLink RX5 23 (TX5 3).1 (TX5 3).2.1 (TX5 3).2.2.1 ∈ wsX5_witness := by decide +kernel
theorem hX5_witness_126 : Cond.fieldLink RX5 126 (TX0 3).1 (TX0 3).2.1 (TX0 3).2.2.1 ∈ wsX5_witness := by decide +kernel
def fX5_witness (σ : St) (a1 : Int32) : Option (Int32 × St) := qlet (σ.1 21 6) (fun x7 => qlet (fun (y25 : St) => (some ((-1 : Int32), y25))) (fun j25 => (if (12 : Int32) ≤ x7 then (j25 σ) else (qcall (fX4_isLand σ a1) (fun r19 σ19 => if r19 = (0 : Int32) then (j25 σ19) else (qix x7 12 (qlet (sI σ19 30 x7.toNatClampNeg a1) (fun σ36 => qlet (sI σ36 21 6 (x7 + (1 : Int32))) (fun σ44 => some (x7, σ44))))))))))
set_option maxHeartbeats 4000000 in
set_option maxRecDepth 100000 in
theorem kX5_witness (l : Launch) (D : va_G) (ad : Nat → Nat) (cy : Nat → ClassId) (X : va_W) (A : Nat → Prop) (zs : Nat × Nat × Option Nat) (σ : St) (a1 : Int32) (r0 : Int32) (σ0 : St) (h : fX5_witness σ a1 = some (r0, σ0)) : Met l yX5_witness wsX5_witness rmX5_witness (qPc ceC 96 ad cy X A D zs [.ref (ad 0), .int a1] σ) (qQi ceC 96 ad cy X A D r0 σ0) 0 0 A := by
  refine Met.ofW (cc := cX5_witness) (maxL := 3) (ret := (some .int)) (by decide) rfl ?_
  intro p e s m args below meth c s₁ B hml hv
  obtain ⟨ha, hP, hK, hE, hD⟩ := hv
  have C : qC ceC 96 ad cy X A D zs cX5_witness 3 RX5 wsX5_witness p s m args meth c (some .int) := ⟨B.exec, B.bytes, hml, findClass_of_methodNamed B.named, atoms_spec (ws := wsX5_witness) B.pre, hK, hD, B.returns, B.notSynchronized, hE⟩
  rw [show entryFrame m args 3 = entryFrame m ([.ref (ad 0), .int a1] : List Value).toArray 3 by rw [ha]]
  refine q_entry (A := A) (Nat.le_of_ble_eq_true rfl) hP (lv := [(0, .ref (ad 0)), (1, .int a1)]) rfl ?_
  unfold fX5_witness at h
  refine q_aload_n C dX5_witness_0 rfl 0 rfl ?_
  refine q_get C (Cn := RX5) (T := TX5) (Nf := 10) (ci := 5) (id := 0) (k := 4) (v := .ref (ad 21)) nX5_witness_X5 (by decide) (ceC_0 ad cy _ _ _) rfl (by decide) rfl hX5_witness_32 dX5_witness_1 ?_
  refine q_get C (Cn := RX0) (T := TX0) (Nf := 9) (ci := 0) (id := 21) (k := 6) (v := .int (σ.1 21 6)) nX5_witness_X0 (by decide) (ceC_21 ad cy _ _ _) rfl (by decide) rfl hX5_witness_123 dX5_witness_4 ?_
  refine q_istore_nL C dX5_witness_7 rfl (by decide) h (lw := fun x7 => [(0, .ref (ad 0)), (1, .int a1), (2, .int x7)]) (fun _ => rfl) (fun x7 h => ?_)
  refine q_iload_n C dX5_witness_8 rfl 2 rfl ?_
  refine q_bipush C (v := 12) dX5_witness_9 (by decide) ?_
  refine q_join (G := fun (y25 : St) => qVi ceC 96 ad cy X A D p l e (headSpec wsX5_witness rmX5_witness).room s m args below meth c 3 r0 σ0 25 [] [] y25) h (fun y25 h => ?_) (fun j25 hj25 h => ?_)
  · refine q_iconst C (v := -1) dX5_witness_25 (by decide) ?_
    exact q_iret C rfl dX5_witness_26 h
  refine q_icmp_ge C (tgt := 25) dX5_witness_11 (by decide) h (fun h => ?_) (fun h => ?_)
  · exact q_sub [] rfl (hj25 σ h)
  · refine q_aload_n C dX5_witness_14 rfl 0 rfl ?_
    refine q_get C (Cn := RX5) (T := TX5) (Nf := 10) (ci := 5) (id := 0) (k := 3) (v := .ref (ad 2)) nX5_witness_X5 (by decide) (ceC_0 ad cy _ _ _) rfl (by decide) rfl hX5_witness_23 dX5_witness_15 ?_
    refine q_iload_n C dX5_witness_18 rfl 1 rfl ?_
    refine q_callVi C (rm := rmX4_isLand) (As := [.int a1]) (rest := []) (id := 2) (ci := 4) (fun r9 σ9 h9 => kX4_isLand l D ad cy X A zs σ a1 r9 σ9 h9) gX5_witness_X4_isLand rfl rfl rfl hyX4_isLand ⟨Nat.le_of_ble_eq_true rfl, Nat.le_of_ble_eq_true rfl⟩ (by decide) (ceC_2 ad cy _ _ _) rfl rfl rfl (Nat.le_of_ble_eq_true rfl) dX5_witness_19 ⟨Nat.zero_le _, Nat.zero_le _⟩ h (fun r19 σ19 h => ?_)
    refine q_if_ne C (tgt := 27) dX5_witness_22 (by decide) h (fun h => ?_) (fun h => ?_)
    · refine q_aload_n C dX5_witness_27 rfl 0 rfl ?_
      refine q_get C (Cn := RX5) (T := TX5) (Nf := 10) (ci := 5) (id := 0) (k := 4) (v := .ref (ad 21)) nX5_witness_X5 (by decide) (ceC_0 ad cy _ _ _) rfl (by decide) rfl hX5_witness_32 dX5_witness_28 ?_
      refine q_get C (Cn := RX0) (T := TX0) (Nf := 9) (ci := 0) (id := 21) (k := 3) (v := .ref (ad 30)) nX5_witness_X0 (by decide) (ceC_21 ad cy _ _ _) rfl (by decide) rfl hX5_witness_126 dX5_witness_31 ?_
      refine q_iload_n C dX5_witness_34 rfl 2 rfl ?_
      refine q_iload_n C dX5_witness_35 rfl 1 rfl ?_
      refine q_iast C (id := 30) (by decide) (fun f g => ceC_30 ad cy _ f g) dX5_witness_36 h (fun σ36 h => ?_)
      refine q_aload_n C dX5_witness_37 rfl 0 rfl ?_
      refine q_get C (Cn := RX5) (T := TX5) (Nf := 10) (ci := 5) (id := 0) (k := 4) (v := .ref (ad 21)) nX5_witness_X5 (by decide) (ceC_0 ad cy _ _ _) rfl (by decide) rfl hX5_witness_32 dX5_witness_38 ?_
      refine q_iload_n C dX5_witness_41 rfl 2 rfl ?_
      refine q_iconst C (v := 1) dX5_witness_42 (by decide) ?_
      refine q_iadd C dX5_witness_43 ?_
      refine q_put C (Cn := RX0) (T := TX0) (ty0 := tyX0) (Nf := 9) (ci := 0) (id := 21) (k := 6) (y := 0) tyX0_ok nmX0 nX5_witness_X0 (by decide) (ceC_21 ad cy _ _ _) (ceC_21 ad cy _ _ _) rfl (by decide) rfl (by decide +kernel) (Nat.le_of_ble_eq_true rfl) hX5_witness_123 dX5_witness_44 h (fun σ44 h => ?_)
      refine q_iload_n C dX5_witness_47 rfl 2 rfl ?_
      exact q_iret C rfl dX5_witness_48 h
    · exact q_sub [] rfl (hj25 σ19 h)
abbrev rmX5_report : Room := { frames := 1, cells := 0, slots := 0, locals := 23 }
theorem hyX5_report : yX5_report.cls = RX5 ∧ yX5_report.cls ≠ "java/lang/invoke/MethodHandle" ∧ yX5_report.cls ≠ "java/lang/invoke/VarHandle" ∧ (parseMethodDescriptor yX5_report.desc).map (fun d => d.parameters.length) = some 2 := by decide +kernel
theorem nX5_report_X0 : ∀ w ∈ u_ws RX0 TX0 9, w ∈ wsX5_report := by decide +kernel
theorem nX5_report_X5 : ∀ w ∈ u_ws RX5 TX5 10, w ∈ wsX5_report := by decide +kernel
theorem hX5_report_32 : Cond.fieldLink RX5 32 (TX5 4).1 (TX5 4).2.1 (TX5 4).2.2.1 ∈ wsX5_report := by decide +kernel
theorem hX5_report_129 : Cond.fieldLink RX5 129 (TX0 7).1 (TX0 7).2.1 (TX0 7).2.2.1 ∈ wsX5_report := by decide +kernel
def fX5_report (σ : St) (a1 : Int32) (a2 : Int32) : Option (Int32 × St) := qlet (fun (y31 : St) => (some ((-1 : Int32), y31))) (fun j31 => (if (300 : Int32) ≤ (σ.1 21 7) then (j31 σ) else (qcall (fX0_isWitness σ a1) (fun r18 σ18 => if r18 = (0 : Int32) then (j31 σ18) else (qcall (fX5_isEvening σ18 a2) (fun r25 σ25 => if r25 = (0 : Int32) then (j31 σ25) else (qcall (fX0_addReport σ25 a1 a2) (fun r39 σ39 => some (r39, σ39)))))))))
set_option maxHeartbeats 4000000 in
set_option maxRecDepth 100000 in
theorem kX5_report (l : Launch) (D : va_G) (ad : Nat → Nat) (cy : Nat → ClassId) (X : va_W) (A : Nat → Prop) (zs : Nat × Nat × Option Nat) (σ : St) (a1 : Int32) (a2 : Int32) (r0 : Int32) (σ0 : St) (h : fX5_report σ a1 a2 = some (r0, σ0)) : Met l yX5_report wsX5_report rmX5_report (qPc ceC 96 ad cy X A D zs [.ref (ad 0), .int a1, .int a2] σ) (qQi ceC 96 ad cy X A D r0 σ0) 0 0 A := by
  refine Met.ofW (cc := cX5_report) (maxL := 3) (ret := (some .int)) (by decide) rfl ?_
  intro p e s m args below meth c s₁ B hml hv
  obtain ⟨ha, hP, hK, hE, hD⟩ := hv
  have C : qC ceC 96 ad cy X A D zs cX5_report 3 RX5 wsX5_report p s m args meth c (some .int) := ⟨B.exec, B.bytes, hml, findClass_of_methodNamed B.named, atoms_spec (ws := wsX5_report) B.pre, hK, hD, B.returns, B.notSynchronized, hE⟩
  rw [show entryFrame m args 3 = entryFrame m ([.ref (ad 0), .int a1, .int a2] : List Value).toArray 3 by rw [ha]]
  refine q_entry (A := A) (Nat.le_of_ble_eq_true rfl) hP (lv := [(0, .ref (ad 0)), (1, .int a1), (2, .int a2)]) rfl ?_
  unfold fX5_report at h
  refine q_aload_n C dX5_report_0 rfl 0 rfl ?_
  refine q_get C (Cn := RX5) (T := TX5) (Nf := 10) (ci := 5) (id := 0) (k := 4) (v := .ref (ad 21)) nX5_report_X5 (by decide) (ceC_0 ad cy _ _ _) rfl (by decide) rfl hX5_report_32 dX5_report_1 ?_
  refine q_get C (Cn := RX0) (T := TX0) (Nf := 9) (ci := 0) (id := 21) (k := 7) (v := .int (σ.1 21 7)) nX5_report_X0 (by decide) (ceC_21 ad cy _ _ _) rfl (by decide) rfl hX5_report_129 dX5_report_4 ?_
  refine q_sipush C (v := 300) dX5_report_7 (by decide) ?_
  refine q_join (G := fun (y31 : St) => qVi ceC 96 ad cy X A D p l e (headSpec wsX5_report rmX5_report).room s m args below meth c 3 r0 σ0 31 [] [] y31) h (fun y31 h => ?_) (fun j31 hj31 h => ?_)
  · refine q_iconst C (v := -1) dX5_report_31 (by decide) ?_
    exact q_iret C rfl dX5_report_32 h
  refine q_icmp_ge C (tgt := 31) dX5_report_10 (by decide) h (fun h => ?_) (fun h => ?_)
  · exact q_sub [] rfl (hj31 σ h)
  · refine q_aload_n C dX5_report_13 rfl 0 rfl ?_
    refine q_get C (Cn := RX5) (T := TX5) (Nf := 10) (ci := 5) (id := 0) (k := 4) (v := .ref (ad 21)) nX5_report_X5 (by decide) (ceC_0 ad cy _ _ _) rfl (by decide) rfl hX5_report_32 dX5_report_14 ?_
    refine q_iload_n C dX5_report_17 rfl 1 rfl ?_
    refine q_callVi C (rm := rmX0_isWitness) (As := [.int a1]) (rest := []) (id := 21) (ci := 0) (fun r9 σ9 h9 => kX0_isWitness l D ad cy X A zs σ a1 r9 σ9 h9) gX5_report_X0_isWitness rfl rfl rfl hyX0_isWitness ⟨Nat.le_of_ble_eq_true rfl, Nat.le_of_ble_eq_true rfl⟩ (by decide) (ceC_21 ad cy _ _ _) rfl rfl rfl (Nat.le_of_ble_eq_true rfl) dX5_report_18 ⟨Nat.zero_le _, Nat.zero_le _⟩ h (fun r18 σ18 h => ?_)
    refine q_if_eq C (tgt := 31) dX5_report_21 (by decide) h (fun h => ?_) (fun h => ?_)
    · exact q_sub [] rfl (hj31 σ18 h)
    · refine q_iload_n C dX5_report_24 rfl 2 rfl ?_
      refine q_callSi C (rm := rmX5_isEvening) (As := [.int a2]) (rest := []) (fun r9 σ9 h9 => kX5_isEvening l D ad cy X A zs σ18 a2 r9 σ9 h9) gX5_report_X5_isEvening rfl rfl rfl hyX5_isEvening ⟨Nat.le_of_ble_eq_true rfl, Nat.le_of_ble_eq_true rfl⟩ rfl rfl (Nat.le_of_ble_eq_true rfl) dX5_report_25 ⟨Nat.zero_le _, Nat.zero_le _⟩ h (fun r25 σ25 h => ?_)
      refine q_if_ne C (tgt := 33) dX5_report_28 (by decide) h (fun h => ?_) (fun h => ?_)
      · refine q_aload_n C dX5_report_33 rfl 0 rfl ?_
        refine q_get C (Cn := RX5) (T := TX5) (Nf := 10) (ci := 5) (id := 0) (k := 4) (v := .ref (ad 21)) nX5_report_X5 (by decide) (ceC_0 ad cy _ _ _) rfl (by decide) rfl hX5_report_32 dX5_report_34 ?_
        refine q_iload_n C dX5_report_37 rfl 1 rfl ?_
        refine q_iload_n C dX5_report_38 rfl 2 rfl ?_
        refine q_callVi C (rm := rmX0_addReport) (As := [.int a1, .int a2]) (rest := []) (id := 21) (ci := 0) (fun r9 σ9 h9 => kX0_addReport l D ad cy X A zs σ25 a1 a2 r9 σ9 h9) gX5_report_X0_addReport rfl rfl rfl hyX0_addReport ⟨Nat.le_of_ble_eq_true rfl, Nat.le_of_ble_eq_true rfl⟩ (by decide) (ceC_21 ad cy _ _ _) rfl rfl rfl (Nat.le_of_ble_eq_true rfl) dX5_report_39 ⟨Nat.zero_le _, Nat.zero_le _⟩ h (fun r39 σ39 h => ?_)
        exact q_iret C rfl dX5_report_42 h
      · exact q_sub [] rfl (hj31 σ25 h)
abbrev rmX5_cloud : Room := { frames := 1, cells := 0, slots := 0, locals := 23 }
theorem hyX5_cloud : yX5_cloud.cls = RX5 ∧ yX5_cloud.cls ≠ "java/lang/invoke/MethodHandle" ∧ yX5_cloud.cls ≠ "java/lang/invoke/VarHandle" ∧ (parseMethodDescriptor yX5_cloud.desc).map (fun d => d.parameters.length) = some 2 := by decide +kernel
theorem nX5_cloud_X0 : ∀ w ∈ u_ws RX0 TX0 9, w ∈ wsX5_cloud := by decide +kernel
theorem nX5_cloud_X5 : ∀ w ∈ u_ws RX5 TX5 10, w ∈ wsX5_cloud := by decide +kernel
theorem hX5_cloud_32 : Cond.fieldLink RX5 32 (TX5 4).1 (TX5 4).2.1 (TX5 4).2.2.1 ∈ wsX5_cloud := by decide +kernel
theorem hX5_cloud_129 : Cond.fieldLink RX5 129 (TX0 7).1 (TX0 7).2.1 (TX0 7).2.2.1 ∈ wsX5_cloud := by decide +kernel
theorem hX5_cloud_23 : Cond.fieldLink RX5 23 (TX5 3).1 (TX5 3).2.1 (TX5 3).2.2.1 ∈ wsX5_cloud := by decide +kernel
def fX5_cloud (σ : St) (a1 : Int32) (a2 : Int32) : Option (Int32 × St) := qlet (fun (y31 : St) => (some ((-1 : Int32), y31))) (fun j31 => (if (300 : Int32) ≤ (σ.1 21 7) then (j31 σ) else (qcall (fX4_isLand σ a1) (fun r18 σ18 => if r18 = (0 : Int32) then (j31 σ18) else (qcall (fX5_isEvening σ18 a2) (fun r25 σ25 => if r25 = (0 : Int32) then (j31 σ25) else (qcall (fX0_addCloud σ25 a1 a2) (fun r39 σ39 => some (r39, σ39)))))))))
set_option maxHeartbeats 4000000 in
set_option maxRecDepth 100000 in
theorem kX5_cloud (l : Launch) (D : va_G) (ad : Nat → Nat) (cy : Nat → ClassId) (X : va_W) (A : Nat → Prop) (zs : Nat × Nat × Option Nat) (σ : St) (a1 : Int32) (a2 : Int32) (r0 : Int32) (σ0 : St) (h : fX5_cloud σ a1 a2 = some (r0, σ0)) : Met l yX5_cloud wsX5_cloud rmX5_cloud (qPc ceC 96 ad cy X A D zs [.ref (ad 0), .int a1, .int a2] σ) (qQi ceC 96 ad cy X A D r0 σ0) 0 0 A := by
  refine Met.ofW (cc := cX5_cloud) (maxL := 3) (ret := (some .int)) (by decide) rfl ?_
  intro p e s m args below meth c s₁ B hml hv
  obtain ⟨ha, hP, hK, hE, hD⟩ := hv
  have C : qC ceC 96 ad cy X A D zs cX5_cloud 3 RX5 wsX5_cloud p s m args meth c (some .int) := ⟨B.exec, B.bytes, hml, findClass_of_methodNamed B.named, atoms_spec (ws := wsX5_cloud) B.pre, hK, hD, B.returns, B.notSynchronized, hE⟩
  rw [show entryFrame m args 3 = entryFrame m ([.ref (ad 0), .int a1, .int a2] : List Value).toArray 3 by rw [ha]]
  refine q_entry (A := A) (Nat.le_of_ble_eq_true rfl) hP (lv := [(0, .ref (ad 0)), (1, .int a1), (2, .int a2)]) rfl ?_
  unfold fX5_cloud at h
  refine q_aload_n C dX5_cloud_0 rfl 0 rfl ?_
  refine q_get C (Cn := RX5) (T := TX5) (Nf := 10) (ci := 5) (id := 0) (k := 4) (v := .ref (ad 21)) nX5_cloud_X5 (by decide) (ceC_0 ad cy _ _ _) rfl (by decide) rfl hX5_cloud_32 dX5_cloud_1 ?_
  refine q_get C (Cn := RX0) (T := TX0) (Nf := 9) (ci := 0) (id := 21) (k := 7) (v := .int (σ.1 21 7)) nX5_cloud_X0 (by decide) (ceC_21 ad cy _ _ _) rfl (by decide) rfl hX5_cloud_129 dX5_cloud_4 ?_
  refine q_sipush C (v := 300) dX5_cloud_7 (by decide) ?_
  refine q_join (G := fun (y31 : St) => qVi ceC 96 ad cy X A D p l e (headSpec wsX5_cloud rmX5_cloud).room s m args below meth c 3 r0 σ0 31 [] [] y31) h (fun y31 h => ?_) (fun j31 hj31 h => ?_)
  · refine q_iconst C (v := -1) dX5_cloud_31 (by decide) ?_
    exact q_iret C rfl dX5_cloud_32 h
  refine q_icmp_ge C (tgt := 31) dX5_cloud_10 (by decide) h (fun h => ?_) (fun h => ?_)
  · exact q_sub [] rfl (hj31 σ h)
  · refine q_aload_n C dX5_cloud_13 rfl 0 rfl ?_
    refine q_get C (Cn := RX5) (T := TX5) (Nf := 10) (ci := 5) (id := 0) (k := 3) (v := .ref (ad 2)) nX5_cloud_X5 (by decide) (ceC_0 ad cy _ _ _) rfl (by decide) rfl hX5_cloud_23 dX5_cloud_14 ?_
    refine q_iload_n C dX5_cloud_17 rfl 1 rfl ?_
    refine q_callVi C (rm := rmX4_isLand) (As := [.int a1]) (rest := []) (id := 2) (ci := 4) (fun r9 σ9 h9 => kX4_isLand l D ad cy X A zs σ a1 r9 σ9 h9) gX5_cloud_X4_isLand rfl rfl rfl hyX4_isLand ⟨Nat.le_of_ble_eq_true rfl, Nat.le_of_ble_eq_true rfl⟩ (by decide) (ceC_2 ad cy _ _ _) rfl rfl rfl (Nat.le_of_ble_eq_true rfl) dX5_cloud_18 ⟨Nat.zero_le _, Nat.zero_le _⟩ h (fun r18 σ18 h => ?_)
    refine q_if_eq C (tgt := 31) dX5_cloud_21 (by decide) h (fun h => ?_) (fun h => ?_)
    · exact q_sub [] rfl (hj31 σ18 h)
    · refine q_iload_n C dX5_cloud_24 rfl 2 rfl ?_
      refine q_callSi C (rm := rmX5_isEvening) (As := [.int a2]) (rest := []) (fun r9 σ9 h9 => kX5_isEvening l D ad cy X A zs σ18 a2 r9 σ9 h9) gX5_cloud_X5_isEvening rfl rfl rfl hyX5_isEvening ⟨Nat.le_of_ble_eq_true rfl, Nat.le_of_ble_eq_true rfl⟩ rfl rfl (Nat.le_of_ble_eq_true rfl) dX5_cloud_25 ⟨Nat.zero_le _, Nat.zero_le _⟩ h (fun r25 σ25 h => ?_)
      refine q_if_ne C (tgt := 33) dX5_cloud_28 (by decide) h (fun h => ?_) (fun h => ?_)
      · refine q_aload_n C dX5_cloud_33 rfl 0 rfl ?_
        refine q_get C (Cn := RX5) (T := TX5) (Nf := 10) (ci := 5) (id := 0) (k := 4) (v := .ref (ad 21)) nX5_cloud_X5 (by decide) (ceC_0 ad cy _ _ _) rfl (by decide) rfl hX5_cloud_32 dX5_cloud_34 ?_
        refine q_iload_n C dX5_cloud_37 rfl 1 rfl ?_
        refine q_iload_n C dX5_cloud_38 rfl 2 rfl ?_
        refine q_callVi C (rm := rmX0_addCloud) (As := [.int a1, .int a2]) (rest := []) (id := 21) (ci := 0) (fun r9 σ9 h9 => kX0_addCloud l D ad cy X A zs σ25 a1 a2 r9 σ9 h9) gX5_cloud_X0_addCloud rfl rfl rfl hyX0_addCloud ⟨Nat.le_of_ble_eq_true rfl, Nat.le_of_ble_eq_true rfl⟩ (by decide) (ceC_21 ad cy _ _ _) rfl rfl rfl (Nat.le_of_ble_eq_true rfl) dX5_cloud_39 ⟨Nat.zero_le _, Nat.zero_le _⟩ h (fun r39 σ39 h => ?_)
        exact q_iret C rfl dX5_cloud_42 h
      · exact q_sub [] rfl (hj31 σ25 h)
abbrev rmX5_age : Room := { frames := 1, cells := 0, slots := 0, locals := 24 }
theorem hyX5_age : yX5_age.cls = RX5 ∧ yX5_age.cls ≠ "java/lang/invoke/MethodHandle" ∧ yX5_age.cls ≠ "java/lang/invoke/VarHandle" ∧ (parseMethodDescriptor yX5_age.desc).map (fun d => d.parameters.length) = some 2 := by decide +kernel
theorem nX5_age_X5 : ∀ w ∈ u_ws RX5 TX5 10, w ∈ wsX5_age := by decide +kernel
theorem hX5_age_23 : Cond.fieldLink RX5 23 (TX5 3).1 (TX5 3).2.1 (TX5 3).2.2.1 ∈ wsX5_age := by decide +kernel
def fX5_age (σ : St) (a1 : Int32) (a2 : Int32) : Option (Int32 × St) := qcall (fX4_isLand σ a1) (fun r5 σ5 => qlet (fun (y18 : St) => (some ((-1 : Int32), y18))) (fun j18 => (if r5 = (0 : Int32) then (j18 σ5) else (qcall (fX5_isEvening σ5 a2) (fun r12 σ12 => if r12 = (0 : Int32) then (j18 σ12) else (qcall (fX4_ageOn σ12 a1 a2) (fun r26 σ26 => some (r26, σ26))))))))
set_option maxHeartbeats 4000000 in
set_option maxRecDepth 100000 in
theorem kX5_age (l : Launch) (D : va_G) (ad : Nat → Nat) (cy : Nat → ClassId) (X : va_W) (A : Nat → Prop) (zs : Nat × Nat × Option Nat) (σ : St) (a1 : Int32) (a2 : Int32) (r0 : Int32) (σ0 : St) (h : fX5_age σ a1 a2 = some (r0, σ0)) : Met l yX5_age wsX5_age rmX5_age (qPc ceC 96 ad cy X A D zs [.ref (ad 0), .int a1, .int a2] σ) (qQi ceC 96 ad cy X A D r0 σ0) 0 0 A := by
  refine Met.ofW (cc := cX5_age) (maxL := 3) (ret := (some .int)) (by decide) rfl ?_
  intro p e s m args below meth c s₁ B hml hv
  obtain ⟨ha, hP, hK, hE, hD⟩ := hv
  have C : qC ceC 96 ad cy X A D zs cX5_age 3 RX5 wsX5_age p s m args meth c (some .int) := ⟨B.exec, B.bytes, hml, findClass_of_methodNamed B.named, atoms_spec (ws := wsX5_age) B.pre, hK, hD, B.returns, B.notSynchronized, hE⟩
  rw [show entryFrame m args 3 = entryFrame m ([.ref (ad 0), .int a1, .int a2] : List Value).toArray 3 by rw [ha]]
  refine q_entry (A := A) (Nat.le_of_ble_eq_true rfl) hP (lv := [(0, .ref (ad 0)), (1, .int a1), (2, .int a2)]) rfl ?_
  unfold fX5_age at h
  refine q_aload_n C dX5_age_0 rfl 0 rfl ?_
  refine q_get C (Cn := RX5) (T := TX5) (Nf := 10) (ci := 5) (id := 0) (k := 3) (v := .ref (ad 2)) nX5_age_X5 (by decide) (ceC_0 ad cy _ _ _) rfl (by decide) rfl hX5_age_23 dX5_age_1 ?_
  refine q_iload_n C dX5_age_4 rfl 1 rfl ?_
  refine q_callVi C (rm := rmX4_isLand) (As := [.int a1]) (rest := []) (id := 2) (ci := 4) (fun r9 σ9 h9 => kX4_isLand l D ad cy X A zs σ a1 r9 σ9 h9) gX5_age_X4_isLand rfl rfl rfl hyX4_isLand ⟨Nat.le_of_ble_eq_true rfl, Nat.le_of_ble_eq_true rfl⟩ (by decide) (ceC_2 ad cy _ _ _) rfl rfl rfl (Nat.le_of_ble_eq_true rfl) dX5_age_5 ⟨Nat.zero_le _, Nat.zero_le _⟩ h (fun r5 σ5 h => ?_)
  refine q_join (G := fun (y18 : St) => qVi ceC 96 ad cy X A D p l e (headSpec wsX5_age rmX5_age).room s m args below meth c 3 r0 σ0 18 [] [] y18) h (fun y18 h => ?_) (fun j18 hj18 h => ?_)
  · refine q_iconst C (v := -1) dX5_age_18 (by decide) ?_
    exact q_iret C rfl dX5_age_19 h
  refine q_if_eq C (tgt := 18) dX5_age_8 (by decide) h (fun h => ?_) (fun h => ?_)
  · exact q_sub [] rfl (hj18 σ5 h)
  · refine q_iload_n C dX5_age_11 rfl 2 rfl ?_
    refine q_callSi C (rm := rmX5_isEvening) (As := [.int a2]) (rest := []) (fun r9 σ9 h9 => kX5_isEvening l D ad cy X A zs σ5 a2 r9 σ9 h9) gX5_age_X5_isEvening rfl rfl rfl hyX5_isEvening ⟨Nat.le_of_ble_eq_true rfl, Nat.le_of_ble_eq_true rfl⟩ rfl rfl (Nat.le_of_ble_eq_true rfl) dX5_age_12 ⟨Nat.zero_le _, Nat.zero_le _⟩ h (fun r12 σ12 h => ?_)
    refine q_if_ne C (tgt := 20) dX5_age_15 (by decide) h (fun h => ?_) (fun h => ?_)
    · refine q_aload_n C dX5_age_20 rfl 0 rfl ?_
      refine q_get C (Cn := RX5) (T := TX5) (Nf := 10) (ci := 5) (id := 0) (k := 3) (v := .ref (ad 2)) nX5_age_X5 (by decide) (ceC_0 ad cy _ _ _) rfl (by decide) rfl hX5_age_23 dX5_age_21 ?_
      refine q_iload_n C dX5_age_24 rfl 1 rfl ?_
      refine q_iload_n C dX5_age_25 rfl 2 rfl ?_
      refine q_callVi C (rm := rmX4_ageOn) (As := [.int a1, .int a2]) (rest := []) (id := 2) (ci := 4) (fun r9 σ9 h9 => kX4_ageOn l D ad cy X A zs σ12 a1 a2 r9 σ9 h9) gX5_age_X4_ageOn rfl rfl rfl hyX4_ageOn ⟨Nat.le_of_ble_eq_true rfl, Nat.le_of_ble_eq_true rfl⟩ (by decide) (ceC_2 ad cy _ _ _) rfl rfl rfl (Nat.le_of_ble_eq_true rfl) dX5_age_26 ⟨Nat.zero_le _, Nat.zero_le _⟩ h (fun r26 σ26 h => ?_)
      exact q_iret C rfl dX5_age_29 h
    · exact q_sub [] rfl (hj18 σ12 h)
abbrev rmX5_light : Room := { frames := 2, cells := 0, slots := 0, locals := 48 }
theorem hyX5_light : yX5_light.cls = RX5 ∧ yX5_light.cls ≠ "java/lang/invoke/MethodHandle" ∧ yX5_light.cls ≠ "java/lang/invoke/VarHandle" ∧ (parseMethodDescriptor yX5_light.desc).map (fun d => d.parameters.length) = some 2 := by decide +kernel
theorem nX5_light_X5 : ∀ w ∈ u_ws RX5 TX5 10, w ∈ wsX5_light := fun w h => List.mem_cons_of_mem _ (List.mem_append_left _ (List.mem_append_right _ h))
theorem hX5_light_23 : Cond.fieldLink RX5 23 (TX5 3).1 (TX5 3).2.1 (TX5 3).2.2.1 ∈ wsX5_light := by decide +kernel
def fX5_light (σ : St) (a1 : Int32) (a2 : Int32) : Option (Int32 × St) := qcall (fX4_isLand σ a1) (fun r5 σ5 => qlet (fun (y18 : St) => (some ((-1 : Int32), y18))) (fun j18 => (if r5 = (0 : Int32) then (j18 σ5) else (qcall (fX5_isEvening σ5 a2) (fun r12 σ12 => if r12 = (0 : Int32) then (j18 σ12) else (qcall (fX4_lightOn σ12 a1 a2) (fun r26 σ26 => some (r26, σ26))))))))
set_option maxHeartbeats 4000000 in
set_option maxRecDepth 100000 in
theorem kX5_light (l : Launch) (D : va_G) (ad : Nat → Nat) (cy : Nat → ClassId) (X : va_W) (A : Nat → Prop) (zs : Nat × Nat × Option Nat) (σ : St) (a1 : Int32) (a2 : Int32) (r0 : Int32) (σ0 : St) (h : fX5_light σ a1 a2 = some (r0, σ0)) : Met l yX5_light wsX5_light rmX5_light (qPc ceC 96 ad cy X A D zs [.ref (ad 0), .int a1, .int a2] σ) (qQi ceC 96 ad cy X A D r0 σ0) 0 0 A := by
  refine Met.ofW (cc := cX5_light) (maxL := 3) (ret := (some .int)) (by decide) rfl ?_
  intro p e s m args below meth c s₁ B hml hv
  obtain ⟨ha, hP, hK, hE, hD⟩ := hv
  have C : qC ceC 96 ad cy X A D zs cX5_light 3 RX5 wsX5_light p s m args meth c (some .int) := ⟨B.exec, B.bytes, hml, findClass_of_methodNamed B.named, atoms_spec (ws := wsX5_light) B.pre, hK, hD, B.returns, B.notSynchronized, hE⟩
  rw [show entryFrame m args 3 = entryFrame m ([.ref (ad 0), .int a1, .int a2] : List Value).toArray 3 by rw [ha]]
  refine q_entry (A := A) (Nat.le_of_ble_eq_true rfl) hP (lv := [(0, .ref (ad 0)), (1, .int a1), (2, .int a2)]) rfl ?_
  unfold fX5_light at h
  refine q_aload_n C dX5_light_0 rfl 0 rfl ?_
  refine q_get C (Cn := RX5) (T := TX5) (Nf := 10) (ci := 5) (id := 0) (k := 3) (v := .ref (ad 2)) nX5_light_X5 (by decide) (ceC_0 ad cy _ _ _) rfl (by decide) rfl hX5_light_23 dX5_light_1 ?_
  refine q_iload_n C dX5_light_4 rfl 1 rfl ?_
  refine q_callVi C (rm := rmX4_isLand) (As := [.int a1]) (rest := []) (id := 2) (ci := 4) (fun r9 σ9 h9 => kX4_isLand l D ad cy X A zs σ a1 r9 σ9 h9) gX5_light_X4_isLand rfl rfl rfl hyX4_isLand ⟨Nat.le_of_ble_eq_true rfl, Nat.le_of_ble_eq_true rfl⟩ (by decide) (ceC_2 ad cy _ _ _) rfl rfl rfl (Nat.le_of_ble_eq_true rfl) dX5_light_5 ⟨Nat.zero_le _, Nat.zero_le _⟩ h (fun r5 σ5 h => ?_)
  refine q_join (G := fun (y18 : St) => qVi ceC 96 ad cy X A D p l e (headSpec wsX5_light rmX5_light).room s m args below meth c 3 r0 σ0 18 [] [] y18) h (fun y18 h => ?_) (fun j18 hj18 h => ?_)
  · refine q_iconst C (v := -1) dX5_light_18 (by decide) ?_
    exact q_iret C rfl dX5_light_19 h
  refine q_if_eq C (tgt := 18) dX5_light_8 (by decide) h (fun h => ?_) (fun h => ?_)
  · exact q_sub [] rfl (hj18 σ5 h)
  · refine q_iload_n C dX5_light_11 rfl 2 rfl ?_
    refine q_callSi C (rm := rmX5_isEvening) (As := [.int a2]) (rest := []) (fun r9 σ9 h9 => kX5_isEvening l D ad cy X A zs σ5 a2 r9 σ9 h9) gX5_light_X5_isEvening rfl rfl rfl hyX5_isEvening ⟨Nat.le_of_ble_eq_true rfl, Nat.le_of_ble_eq_true rfl⟩ rfl rfl (Nat.le_of_ble_eq_true rfl) dX5_light_12 ⟨Nat.zero_le _, Nat.zero_le _⟩ h (fun r12 σ12 h => ?_)
    refine q_if_ne C (tgt := 20) dX5_light_15 (by decide) h (fun h => ?_) (fun h => ?_)
    · refine q_aload_n C dX5_light_20 rfl 0 rfl ?_
      refine q_get C (Cn := RX5) (T := TX5) (Nf := 10) (ci := 5) (id := 0) (k := 3) (v := .ref (ad 2)) nX5_light_X5 (by decide) (ceC_0 ad cy _ _ _) rfl (by decide) rfl hX5_light_23 dX5_light_21 ?_
      refine q_iload_n C dX5_light_24 rfl 1 rfl ?_
      refine q_iload_n C dX5_light_25 rfl 2 rfl ?_
      refine q_callVi C (rm := rmX4_lightOn) (As := [.int a1, .int a2]) (rest := []) (id := 2) (ci := 4) (fun r9 σ9 h9 => kX4_lightOn l D ad cy X A zs σ12 a1 a2 r9 σ9 h9) gX5_light_X4_lightOn rfl rfl rfl hyX4_lightOn ⟨Nat.le_of_ble_eq_true rfl, Nat.le_of_ble_eq_true rfl⟩ (by decide) (ceC_2 ad cy _ _ _) rfl rfl rfl (Nat.le_of_ble_eq_true rfl) dX5_light_26 ⟨Nat.zero_le _, Nat.zero_le _⟩ h (fun r26 σ26 h => ?_)
      exact q_iret C rfl dX5_light_29 h
    · exact q_sub [] rfl (hj18 σ12 h)
abbrev rmX5_verdict : Room := { frames := 4, cells := 0, slots := 0, locals := 96 }
theorem hyX5_verdict : yX5_verdict.cls = RX5 ∧ yX5_verdict.cls ≠ "java/lang/invoke/MethodHandle" ∧ yX5_verdict.cls ≠ "java/lang/invoke/VarHandle" ∧ (parseMethodDescriptor yX5_verdict.desc).map (fun d => d.parameters.length) = some 2 := by decide +kernel
theorem nX5_verdict_X0 : ∀ w ∈ u_ws RX0 TX0 9, w ∈ wsX5_verdict := fun w h => List.mem_cons_of_mem _ (List.mem_append_left _ (List.mem_append_right _ h))
theorem nX5_verdict_X5 : ∀ w ∈ u_ws RX5 TX5 10, w ∈ wsX5_verdict := fun w h => List.mem_cons_of_mem _ (List.mem_append_left _ (List.mem_append_left _ (List.mem_append_right _ h)))
theorem hX5_verdict_32 : Cond.fieldLink RX5 32 (TX5 4).1 (TX5 4).2.1 (TX5 4).2.2.1 ∈ wsX5_verdict := by decide +kernel
theorem hX5_verdict_154 : Cond.fieldLink RX5 154 (TX0 5).1 (TX0 5).2.1 (TX0 5).2.2.1 ∈ wsX5_verdict := by decide +kernel
def fX5_verdict (σ : St) (a1 : Int32) (a2 : Int32) : Option (Int32 × St) := qcall (fX0_canBeKnownBy σ a2) (fun r5 σ5 => qlet (fun (y20 : Unit) => (some ((-1 : Int32), σ5))) (fun j20 => (if r5 = (0 : Int32) then (j20 ()) else (if a1 < (0 : Int32) then (j20 ()) else (if a1 < a2 then (qcall (fX0_judge σ5 a2) (fun _ σ27 => qix a1 300 (some ((σ27.1 32 a1.toNatClampNeg), σ27)))) else (j20 ()))))))
set_option maxHeartbeats 4000000 in
set_option maxRecDepth 100000 in
theorem kX5_verdict (l : Launch) (D : va_G) (ad : Nat → Nat) (cy : Nat → ClassId) (X : va_W) (A : Nat → Prop) (zs : Nat × Nat × Option Nat) (σ : St) (a1 : Int32) (a2 : Int32) (r0 : Int32) (σ0 : St) (h : fX5_verdict σ a1 a2 = some (r0, σ0)) : Met l yX5_verdict wsX5_verdict rmX5_verdict (qPc ceC 96 ad cy X A D zs [.ref (ad 0), .int a1, .int a2] σ) (qQi ceC 96 ad cy X A D r0 σ0) 0 0 A := by
  refine Met.ofW (cc := cX5_verdict) (maxL := 3) (ret := (some .int)) (by decide) rfl ?_
  intro p e s m args below meth c s₁ B hml hv
  obtain ⟨ha, hP, hK, hE, hD⟩ := hv
  have C : qC ceC 96 ad cy X A D zs cX5_verdict 3 RX5 wsX5_verdict p s m args meth c (some .int) := ⟨B.exec, B.bytes, hml, findClass_of_methodNamed B.named, atoms_spec (ws := wsX5_verdict) B.pre, hK, hD, B.returns, B.notSynchronized, hE⟩
  rw [show entryFrame m args 3 = entryFrame m ([.ref (ad 0), .int a1, .int a2] : List Value).toArray 3 by rw [ha]]
  refine q_entry (A := A) (Nat.le_of_ble_eq_true rfl) hP (lv := [(0, .ref (ad 0)), (1, .int a1), (2, .int a2)]) rfl ?_
  unfold fX5_verdict at h
  refine q_aload_n C dX5_verdict_0 rfl 0 rfl ?_
  refine q_get C (Cn := RX5) (T := TX5) (Nf := 10) (ci := 5) (id := 0) (k := 4) (v := .ref (ad 21)) nX5_verdict_X5 (by decide) (ceC_0 ad cy _ _ _) rfl (by decide) rfl hX5_verdict_32 dX5_verdict_1 ?_
  refine q_iload_n C dX5_verdict_4 rfl 2 rfl ?_
  refine q_callVi C (rm := rmX0_canBeKnownBy) (As := [.int a2]) (rest := []) (id := 21) (ci := 0) (fun r9 σ9 h9 => kX0_canBeKnownBy l D ad cy X A zs σ a2 r9 σ9 h9) gX5_verdict_X0_canBeKnownBy rfl rfl rfl hyX0_canBeKnownBy ⟨Nat.le_of_ble_eq_true rfl, Nat.le_of_ble_eq_true rfl⟩ (by decide) (ceC_21 ad cy _ _ _) rfl rfl rfl (Nat.le_of_ble_eq_true rfl) dX5_verdict_5 ⟨Nat.zero_le _, Nat.zero_le _⟩ h (fun r5 σ5 h => ?_)
  refine q_join (G := fun (y20 : Unit) => qVi ceC 96 ad cy X A D p l e (headSpec wsX5_verdict rmX5_verdict).room s m args below meth c 3 r0 σ0 20 [] [] σ5) h (fun y20 h => ?_) (fun j20 hj20 h => ?_)
  · refine q_iconst C (v := -1) dX5_verdict_20 (by decide) ?_
    exact q_iret C rfl dX5_verdict_21 h
  refine q_if_eq C (tgt := 20) dX5_verdict_8 (by decide) h (fun h => ?_) (fun h => ?_)
  · exact q_sub [] rfl (hj20 () h)
  · refine q_iload_n C dX5_verdict_11 rfl 1 rfl ?_
    refine q_if_lt C (tgt := 20) dX5_verdict_12 (by decide) h (fun h => ?_) (fun h => ?_)
    · exact q_sub [] rfl (hj20 () h)
    · refine q_iload_n C dX5_verdict_15 rfl 1 rfl ?_
      refine q_iload_n C dX5_verdict_16 rfl 2 rfl ?_
      refine q_icmp_lt C (tgt := 22) dX5_verdict_17 (by decide) h (fun h => ?_) (fun h => ?_)
      · refine q_aload_n C dX5_verdict_22 rfl 0 rfl ?_
        refine q_get C (Cn := RX5) (T := TX5) (Nf := 10) (ci := 5) (id := 0) (k := 4) (v := .ref (ad 21)) nX5_verdict_X5 (by decide) (ceC_0 ad cy _ _ _) rfl (by decide) rfl hX5_verdict_32 dX5_verdict_23 ?_
        refine q_iload_n C dX5_verdict_26 rfl 2 rfl ?_
        refine q_callVv C (rm := rmX0_judge) (As := [.int a2]) (rest := []) (id := 21) (ci := 0) (fun r9 σ9 h9 => kX0_judge l D ad cy X A zs σ5 a2 r9 σ9 h9) gX5_verdict_X0_judge rfl rfl rfl hyX0_judge ⟨Nat.le_of_ble_eq_true rfl, Nat.le_of_ble_eq_true rfl⟩ (by decide) (ceC_21 ad cy _ _ _) rfl rfl rfl (Nat.le_of_ble_eq_true rfl) dX5_verdict_27 ⟨Nat.zero_le _, Nat.zero_le _⟩ h (fun r27 σ27 h => ?_)
        refine q_aload_n C dX5_verdict_30 rfl 0 rfl ?_
        refine q_get C (Cn := RX5) (T := TX5) (Nf := 10) (ci := 5) (id := 0) (k := 4) (v := .ref (ad 21)) nX5_verdict_X5 (by decide) (ceC_0 ad cy _ _ _) rfl (by decide) rfl hX5_verdict_32 dX5_verdict_31 ?_
        refine q_get C (Cn := RX0) (T := TX0) (Nf := 9) (ci := 0) (id := 21) (k := 5) (v := .ref (ad 32)) nX5_verdict_X0 (by decide) (ceC_21 ad cy _ _ _) rfl (by decide) rfl hX5_verdict_154 dX5_verdict_34 ?_
        refine q_iload_n C dX5_verdict_37 rfl 1 rfl ?_
        refine q_iald C (id := 32) (by decide) (ceC_32 ad cy _ _ _) dX5_verdict_38 h (fun h => ?_)
        exact q_iret C rfl dX5_verdict_39 h
      · exact q_sub [] rfl (hj20 () h)
abbrev rmX5_worth : Room := { frames := 4, cells := 0, slots := 0, locals := 96 }
theorem hyX5_worth : yX5_worth.cls = RX5 ∧ yX5_worth.cls ≠ "java/lang/invoke/MethodHandle" ∧ yX5_worth.cls ≠ "java/lang/invoke/VarHandle" ∧ (parseMethodDescriptor yX5_worth.desc).map (fun d => d.parameters.length) = some 3 := by decide +kernel
theorem nX5_worth_X5 : ∀ w ∈ u_ws RX5 TX5 10, w ∈ wsX5_worth := fun w h => List.mem_cons_of_mem _ (List.mem_append_left _ (List.mem_append_left _ (List.mem_append_right _ h)))
theorem hX5_worth_32 : Cond.fieldLink RX5 32 (TX5 4).1 (TX5 4).2.1 (TX5 4).2.2.1 ∈ wsX5_worth := by decide +kernel
def fX5_worth (σ : St) (a1 : Int32) (a2 : Int32) (a3 : Int32) : Option (Int32 × St) := qcall (fX0_canBeKnownBy σ a3) (fun r5 σ5 => qlet (fun (y29 : St) => (some ((-1 : Int32), y29))) (fun j29 => (if r5 = (0 : Int32) then (j29 σ5) else (qcall (fX0_isWitness σ5 a1) (fun r16 σ16 => if r16 = (0 : Int32) then (j29 σ16) else (qcall (fX5_isEvening σ16 a2) (fun r23 σ23 => if r23 = (0 : Int32) then (j29 σ23) else (qcall (fX0_judge σ23 a3) (fun _ σ36 => qcall (fX0_worthOn σ36 a1 a2) (fun r45 σ45 => some (r45, σ45)))))))))))
set_option maxHeartbeats 4000000 in
set_option maxRecDepth 100000 in
theorem kX5_worth (l : Launch) (D : va_G) (ad : Nat → Nat) (cy : Nat → ClassId) (X : va_W) (A : Nat → Prop) (zs : Nat × Nat × Option Nat) (σ : St) (a1 : Int32) (a2 : Int32) (a3 : Int32) (r0 : Int32) (σ0 : St) (h : fX5_worth σ a1 a2 a3 = some (r0, σ0)) : Met l yX5_worth wsX5_worth rmX5_worth (qPc ceC 96 ad cy X A D zs [.ref (ad 0), .int a1, .int a2, .int a3] σ) (qQi ceC 96 ad cy X A D r0 σ0) 0 0 A := by
  refine Met.ofW (cc := cX5_worth) (maxL := 4) (ret := (some .int)) (by decide) rfl ?_
  intro p e s m args below meth c s₁ B hml hv
  obtain ⟨ha, hP, hK, hE, hD⟩ := hv
  have C : qC ceC 96 ad cy X A D zs cX5_worth 4 RX5 wsX5_worth p s m args meth c (some .int) := ⟨B.exec, B.bytes, hml, findClass_of_methodNamed B.named, atoms_spec (ws := wsX5_worth) B.pre, hK, hD, B.returns, B.notSynchronized, hE⟩
  rw [show entryFrame m args 4 = entryFrame m ([.ref (ad 0), .int a1, .int a2, .int a3] : List Value).toArray 4 by rw [ha]]
  refine q_entry (A := A) (Nat.le_of_ble_eq_true rfl) hP (lv := [(0, .ref (ad 0)), (1, .int a1), (2, .int a2), (3, .int a3)]) rfl ?_
  unfold fX5_worth at h
  refine q_aload_n C dX5_worth_0 rfl 0 rfl ?_
  refine q_get C (Cn := RX5) (T := TX5) (Nf := 10) (ci := 5) (id := 0) (k := 4) (v := .ref (ad 21)) nX5_worth_X5 (by decide) (ceC_0 ad cy _ _ _) rfl (by decide) rfl hX5_worth_32 dX5_worth_1 ?_
  refine q_iload_n C dX5_worth_4 rfl 3 rfl ?_
  refine q_callVi C (rm := rmX0_canBeKnownBy) (As := [.int a3]) (rest := []) (id := 21) (ci := 0) (fun r9 σ9 h9 => kX0_canBeKnownBy l D ad cy X A zs σ a3 r9 σ9 h9) gX5_worth_X0_canBeKnownBy rfl rfl rfl hyX0_canBeKnownBy ⟨Nat.le_of_ble_eq_true rfl, Nat.le_of_ble_eq_true rfl⟩ (by decide) (ceC_21 ad cy _ _ _) rfl rfl rfl (Nat.le_of_ble_eq_true rfl) dX5_worth_5 ⟨Nat.zero_le _, Nat.zero_le _⟩ h (fun r5 σ5 h => ?_)
  refine q_join (G := fun (y29 : St) => qVi ceC 96 ad cy X A D p l e (headSpec wsX5_worth rmX5_worth).room s m args below meth c 4 r0 σ0 29 [] [] y29) h (fun y29 h => ?_) (fun j29 hj29 h => ?_)
  · refine q_iconst C (v := -1) dX5_worth_29 (by decide) ?_
    exact q_iret C rfl dX5_worth_30 h
  refine q_if_eq C (tgt := 29) dX5_worth_8 (by decide) h (fun h => ?_) (fun h => ?_)
  · exact q_sub [] rfl (hj29 σ5 h)
  · refine q_aload_n C dX5_worth_11 rfl 0 rfl ?_
    refine q_get C (Cn := RX5) (T := TX5) (Nf := 10) (ci := 5) (id := 0) (k := 4) (v := .ref (ad 21)) nX5_worth_X5 (by decide) (ceC_0 ad cy _ _ _) rfl (by decide) rfl hX5_worth_32 dX5_worth_12 ?_
    refine q_iload_n C dX5_worth_15 rfl 1 rfl ?_
    refine q_callVi C (rm := rmX0_isWitness) (As := [.int a1]) (rest := []) (id := 21) (ci := 0) (fun r9 σ9 h9 => kX0_isWitness l D ad cy X A zs σ5 a1 r9 σ9 h9) gX5_worth_X0_isWitness rfl rfl rfl hyX0_isWitness ⟨Nat.le_of_ble_eq_true rfl, Nat.le_of_ble_eq_true rfl⟩ (by decide) (ceC_21 ad cy _ _ _) rfl rfl rfl (Nat.le_of_ble_eq_true rfl) dX5_worth_16 ⟨Nat.zero_le _, Nat.zero_le _⟩ h (fun r16 σ16 h => ?_)
    refine q_if_eq C (tgt := 29) dX5_worth_19 (by decide) h (fun h => ?_) (fun h => ?_)
    · exact q_sub [] rfl (hj29 σ16 h)
    · refine q_iload_n C dX5_worth_22 rfl 2 rfl ?_
      refine q_callSi C (rm := rmX5_isEvening) (As := [.int a2]) (rest := []) (fun r9 σ9 h9 => kX5_isEvening l D ad cy X A zs σ16 a2 r9 σ9 h9) gX5_worth_X5_isEvening rfl rfl rfl hyX5_isEvening ⟨Nat.le_of_ble_eq_true rfl, Nat.le_of_ble_eq_true rfl⟩ rfl rfl (Nat.le_of_ble_eq_true rfl) dX5_worth_23 ⟨Nat.zero_le _, Nat.zero_le _⟩ h (fun r23 σ23 h => ?_)
      refine q_if_ne C (tgt := 31) dX5_worth_26 (by decide) h (fun h => ?_) (fun h => ?_)
      · refine q_aload_n C dX5_worth_31 rfl 0 rfl ?_
        refine q_get C (Cn := RX5) (T := TX5) (Nf := 10) (ci := 5) (id := 0) (k := 4) (v := .ref (ad 21)) nX5_worth_X5 (by decide) (ceC_0 ad cy _ _ _) rfl (by decide) rfl hX5_worth_32 dX5_worth_32 ?_
        refine q_iload_n C dX5_worth_35 rfl 3 rfl ?_
        refine q_callVv C (rm := rmX0_judge) (As := [.int a3]) (rest := []) (id := 21) (ci := 0) (fun r9 σ9 h9 => kX0_judge l D ad cy X A zs σ23 a3 r9 σ9 h9) gX5_worth_X0_judge rfl rfl rfl hyX0_judge ⟨Nat.le_of_ble_eq_true rfl, Nat.le_of_ble_eq_true rfl⟩ (by decide) (ceC_21 ad cy _ _ _) rfl rfl rfl (Nat.le_of_ble_eq_true rfl) dX5_worth_36 ⟨Nat.zero_le _, Nat.zero_le _⟩ h (fun r36 σ36 h => ?_)
        refine q_aload_n C dX5_worth_39 rfl 0 rfl ?_
        refine q_get C (Cn := RX5) (T := TX5) (Nf := 10) (ci := 5) (id := 0) (k := 4) (v := .ref (ad 21)) nX5_worth_X5 (by decide) (ceC_0 ad cy _ _ _) rfl (by decide) rfl hX5_worth_32 dX5_worth_40 ?_
        refine q_iload_n C dX5_worth_43 rfl 1 rfl ?_
        refine q_iload_n C dX5_worth_44 rfl 2 rfl ?_
        refine q_callVi C (rm := rmX0_worthOn) (As := [.int a1, .int a2]) (rest := []) (id := 21) (ci := 0) (fun r9 σ9 h9 => kX0_worthOn l D ad cy X A zs σ36 a1 a2 r9 σ9 h9) gX5_worth_X0_worthOn rfl rfl rfl hyX0_worthOn ⟨Nat.le_of_ble_eq_true rfl, Nat.le_of_ble_eq_true rfl⟩ (by decide) (ceC_21 ad cy _ _ _) rfl rfl rfl (Nat.le_of_ble_eq_true rfl) dX5_worth_45 ⟨Nat.zero_le _, Nat.zero_le _⟩ h (fun r45 σ45 h => ?_)
        exact q_iret C rfl dX5_worth_48 h
      · exact q_sub [] rfl (hj29 σ23 h)
abbrev rmX5_isAsked : Room := { frames := 1, cells := 0, slots := 0, locals := 21 }
theorem hyX5_isAsked : yX5_isAsked.cls = RX5 ∧ yX5_isAsked.cls ≠ "java/lang/invoke/MethodHandle" ∧ yX5_isAsked.cls ≠ "java/lang/invoke/VarHandle" ∧ (parseMethodDescriptor yX5_isAsked.desc).map (fun d => d.parameters.length) = some 4 := by decide +kernel
theorem nX5_isAsked_X5 : ∀ w ∈ u_ws RX5 TX5 10, w ∈ wsX5_isAsked := fun w h => List.mem_cons_of_mem _ (List.mem_append_left _ (List.mem_append_left _ (List.mem_append_right _ h)))
theorem hX5_isAsked_23 : Cond.fieldLink RX5 23 (TX5 3).1 (TX5 3).2.1 (TX5 3).2.2.1 ∈ wsX5_isAsked := by decide +kernel
theorem hX5_isAsked_32 : Cond.fieldLink RX5 32 (TX5 4).1 (TX5 4).2.1 (TX5 4).2.2.1 ∈ wsX5_isAsked := by decide +kernel
def fX5_isAsked (σ : St) (a1 : Int32) (a2 : Int32) (a3 : Int32) (a4 : Int32) : Option (Int32 × St) := qcall (fX4_isLand σ a1) (fun r5 σ5 => qlet (fun (y39 : Int32 × St) => (qzz y39.1 (some (y39.1, y39.2)))) (fun j39 => (qlet (fun (y38 : St) => (j39 ((0 : Int32), y38))) (fun j38 => (if r5 = (0 : Int32) then (j38 σ5) else (if a2 < a3 then (j38 σ5) else (if (14 : Int32) < a2 then (j38 σ5) else (qcall (fX0_canBeKnownBy σ5 a4) (fun r28 σ28 => if r28 = (0 : Int32) then (j38 σ28) else (j39 ((1 : Int32), σ28)))))))))))
set_option maxHeartbeats 4000000 in
set_option maxRecDepth 100000 in
theorem kX5_isAsked (l : Launch) (D : va_G) (ad : Nat → Nat) (cy : Nat → ClassId) (X : va_W) (A : Nat → Prop) (zs : Nat × Nat × Option Nat) (σ : St) (a1 : Int32) (a2 : Int32) (a3 : Int32) (a4 : Int32) (r0 : Int32) (σ0 : St) (h : fX5_isAsked σ a1 a2 a3 a4 = some (r0, σ0)) : Met l yX5_isAsked wsX5_isAsked rmX5_isAsked (qPc ceC 96 ad cy X A D zs [.ref (ad 0), .int a1, .int a2, .int a3, .int a4] σ) (qQi ceC 96 ad cy X A D r0 σ0) 0 0 A := by
  refine Met.ofW (cc := cX5_isAsked) (maxL := 5) (ret := (some .boolean)) (by decide) rfl ?_
  intro p e s m args below meth c s₁ B hml hv
  obtain ⟨ha, hP, hK, hE, hD⟩ := hv
  have C : qC ceC 96 ad cy X A D zs cX5_isAsked 5 RX5 wsX5_isAsked p s m args meth c (some .boolean) := ⟨B.exec, B.bytes, hml, findClass_of_methodNamed B.named, atoms_spec (ws := wsX5_isAsked) B.pre, hK, hD, B.returns, B.notSynchronized, hE⟩
  rw [show entryFrame m args 5 = entryFrame m ([.ref (ad 0), .int a1, .int a2, .int a3, .int a4] : List Value).toArray 5 by rw [ha]]
  refine q_entry (A := A) (Nat.le_of_ble_eq_true rfl) hP (lv := [(0, .ref (ad 0)), (1, .int a1), (2, .int a2), (3, .int a3), (4, .int a4)]) rfl ?_
  unfold fX5_isAsked at h
  refine q_aload_n C dX5_isAsked_0 rfl 0 rfl ?_
  refine q_get C (Cn := RX5) (T := TX5) (Nf := 10) (ci := 5) (id := 0) (k := 3) (v := .ref (ad 2)) nX5_isAsked_X5 (by decide) (ceC_0 ad cy _ _ _) rfl (by decide) rfl hX5_isAsked_23 dX5_isAsked_1 ?_
  refine q_iload_n C dX5_isAsked_4 rfl 1 rfl ?_
  refine q_callVi C (rm := rmX4_isLand) (As := [.int a1]) (rest := []) (id := 2) (ci := 4) (fun r9 σ9 h9 => kX4_isLand l D ad cy X A zs σ a1 r9 σ9 h9) gX5_isAsked_X4_isLand rfl rfl rfl hyX4_isLand ⟨Nat.le_of_ble_eq_true rfl, Nat.le_of_ble_eq_true rfl⟩ (by decide) (ceC_2 ad cy _ _ _) rfl rfl rfl (Nat.le_of_ble_eq_true rfl) dX5_isAsked_5 ⟨Nat.zero_le _, Nat.zero_le _⟩ h (fun r5 σ5 h => ?_)
  refine q_join (G := fun (y39 : Int32 × St) => qVi ceC 96 ad cy X A D p l e (headSpec wsX5_isAsked rmX5_isAsked).room s m args below meth c 5 r0 σ0 39 [] [.int y39.1] y39.2) h (fun y39 h => ?_) (fun j39 hj39 h => ?_)
  · exact q_zret C rfl dX5_isAsked_39 h
  refine q_join (G := fun (y38 : St) => qVi ceC 96 ad cy X A D p l e (headSpec wsX5_isAsked rmX5_isAsked).room s m args below meth c 5 r0 σ0 38 [] [] y38) h (fun y38 h => ?_) (fun j38 hj38 h => ?_)
  · refine q_iconst C (v := 0) dX5_isAsked_38 (by decide) ?_
    exact q_sub [] rfl (hj39 ((0 : Int32), y38) h)
  refine q_if_eq C (tgt := 38) dX5_isAsked_8 (by decide) h (fun h => ?_) (fun h => ?_)
  · exact q_sub [] rfl (hj38 σ5 h)
  · refine q_iload_n C dX5_isAsked_11 rfl 2 rfl ?_
    refine q_iload_n C dX5_isAsked_12 rfl 3 rfl ?_
    refine q_icmp_lt C (tgt := 38) dX5_isAsked_13 (by decide) h (fun h => ?_) (fun h => ?_)
    · exact q_sub [] rfl (hj38 σ5 h)
    · refine q_iload_n C dX5_isAsked_16 rfl 2 rfl ?_
      refine q_bipush C (v := 14) dX5_isAsked_17 (by decide) ?_
      refine q_icmp_gt C (tgt := 38) dX5_isAsked_19 (by decide) h (fun h => ?_) (fun h => ?_)
      · exact q_sub [] rfl (hj38 σ5 h)
      · refine q_aload_n C dX5_isAsked_22 rfl 0 rfl ?_
        refine q_get C (Cn := RX5) (T := TX5) (Nf := 10) (ci := 5) (id := 0) (k := 4) (v := .ref (ad 21)) nX5_isAsked_X5 (by decide) (ceC_0 ad cy _ _ _) rfl (by decide) rfl hX5_isAsked_32 dX5_isAsked_23 ?_
        refine q_iload C dX5_isAsked_26 4 rfl ?_
        refine q_callVi C (rm := rmX0_canBeKnownBy) (As := [.int a4]) (rest := []) (id := 21) (ci := 0) (fun r9 σ9 h9 => kX0_canBeKnownBy l D ad cy X A zs σ5 a4 r9 σ9 h9) gX5_isAsked_X0_canBeKnownBy rfl rfl rfl hyX0_canBeKnownBy ⟨Nat.le_of_ble_eq_true rfl, Nat.le_of_ble_eq_true rfl⟩ (by decide) (ceC_21 ad cy _ _ _) rfl rfl rfl (Nat.le_of_ble_eq_true rfl) dX5_isAsked_28 ⟨Nat.zero_le _, Nat.zero_le _⟩ h (fun r28 σ28 h => ?_)
        refine q_if_eq C (tgt := 38) dX5_isAsked_31 (by decide) h (fun h => ?_) (fun h => ?_)
        · exact q_sub [] rfl (hj38 σ28 h)
        · refine q_iconst C (v := 1) dX5_isAsked_34 (by decide) ?_
          refine q_goto C (tgt := 39) dX5_isAsked_35 (by decide) ?_
          exact q_sub [] rfl (hj39 ((1 : Int32), σ28) h)
abbrev rmX5_begins : Room := { frames := 6, cells := 0, slots := 0, locals := 149 }
theorem hyX5_begins : yX5_begins.cls = RX5 ∧ yX5_begins.cls ≠ "java/lang/invoke/MethodHandle" ∧ yX5_begins.cls ≠ "java/lang/invoke/VarHandle" ∧ (parseMethodDescriptor yX5_begins.desc).map (fun d => d.parameters.length) = some 3 := by decide +kernel
theorem nX5_begins_X1 : ∀ w ∈ u_ws RX1 TX1 10, w ∈ wsX5_begins := fun w h => List.mem_cons_of_mem _ (List.mem_append_left _ (List.mem_append_left _ (List.mem_append_left _ (List.mem_append_right _ h))))
theorem nX5_begins_X5 : ∀ w ∈ u_ws RX5 TX5 10, w ∈ wsX5_begins := fun w h => List.mem_cons_of_mem _ (List.mem_append_left _ (List.mem_append_left _ (List.mem_append_left _ (List.mem_append_left _ (List.mem_append_right _ h)))))
theorem hX5_begins_61 : Cond.fieldLink RX5 61 (TX5 8).1 (TX5 8).2.1 (TX5 8).2.2.1 ∈ wsX5_begins := by decide +kernel
theorem hX5_begins_167 : Cond.fieldLink RX5 167 (TX1 3).1 (TX1 3).2.1 (TX1 3).2.2.1 ∈ wsX5_begins := by decide +kernel
def fX5_begins (σ : St) (a1 : Int32) (a2 : Int32) (a3 : Int32) : Option (Int32 × St) := qcall (fX5_isAsked σ a1 a2 (0 : Int32) a3) (fun r5 σ5 => if r5 = (0 : Int32) then (some ((-1 : Int32), σ5)) else (qcall (fX1_standBy σ5 a3) (fun _ σ18 => qix a1 6 (qix a2 15 (some ((σ18.1 (38 + a1.toNatClampNeg) a2.toNatClampNeg), σ18))))))
set_option maxHeartbeats 4000000 in
set_option maxRecDepth 100000 in
theorem kX5_begins (l : Launch) (D : va_G) (ad : Nat → Nat) (cy : Nat → ClassId) (X : va_W) (A : Nat → Prop) (zs : Nat × Nat × Option Nat) (σ : St) (a1 : Int32) (a2 : Int32) (a3 : Int32) (r0 : Int32) (σ0 : St) (h : fX5_begins σ a1 a2 a3 = some (r0, σ0)) : Met l yX5_begins wsX5_begins rmX5_begins (qPc ceC 96 ad cy X A D zs [.ref (ad 0), .int a1, .int a2, .int a3] σ) (qQi ceC 96 ad cy X A D r0 σ0) 0 0 A := by
  refine Met.ofW (cc := cX5_begins) (maxL := 4) (ret := (some .int)) (by decide) rfl ?_
  intro p e s m args below meth c s₁ B hml hv
  obtain ⟨ha, hP, hK, hE, hD⟩ := hv
  have C : qC ceC 96 ad cy X A D zs cX5_begins 4 RX5 wsX5_begins p s m args meth c (some .int) := ⟨B.exec, B.bytes, hml, findClass_of_methodNamed B.named, atoms_spec (ws := wsX5_begins) B.pre, hK, hD, B.returns, B.notSynchronized, hE⟩
  rw [show entryFrame m args 4 = entryFrame m ([.ref (ad 0), .int a1, .int a2, .int a3] : List Value).toArray 4 by rw [ha]]
  refine q_entry (A := A) (Nat.le_of_ble_eq_true rfl) hP (lv := [(0, .ref (ad 0)), (1, .int a1), (2, .int a2), (3, .int a3)]) rfl ?_
  unfold fX5_begins at h
  refine q_aload_n C dX5_begins_0 rfl 0 rfl ?_
  refine q_iload_n C dX5_begins_1 rfl 1 rfl ?_
  refine q_iload_n C dX5_begins_2 rfl 2 rfl ?_
  refine q_iconst C (v := 0) dX5_begins_3 (by decide) ?_
  refine q_iload_n C dX5_begins_4 rfl 3 rfl ?_
  refine q_callVi C (rm := rmX5_isAsked) (As := [.int a1, .int a2, .int (0 : Int32), .int a3]) (rest := []) (id := 0) (ci := 5) (fun r9 σ9 h9 => kX5_isAsked l D ad cy X A zs σ a1 a2 (0 : Int32) a3 r9 σ9 h9) gX5_begins_X5_isAsked rfl rfl rfl hyX5_isAsked ⟨Nat.le_of_ble_eq_true rfl, Nat.le_of_ble_eq_true rfl⟩ (by decide) (ceC_0 ad cy _ _ _) rfl rfl rfl (Nat.le_of_ble_eq_true rfl) dX5_begins_5 ⟨Nat.zero_le _, Nat.zero_le _⟩ h (fun r5 σ5 h => ?_)
  refine q_if_ne C (tgt := 13) dX5_begins_8 (by decide) h (fun h => ?_) (fun h => ?_)
  · refine q_aload_n C dX5_begins_13 rfl 0 rfl ?_
    refine q_get C (Cn := RX5) (T := TX5) (Nf := 10) (ci := 5) (id := 0) (k := 8) (v := .ref (ad 36)) nX5_begins_X5 (by decide) (ceC_0 ad cy _ _ _) rfl (by decide) rfl hX5_begins_61 dX5_begins_14 ?_
    refine q_iload_n C dX5_begins_17 rfl 3 rfl ?_
    refine q_callVv C (rm := rmX1_standBy) (As := [.int a3]) (rest := []) (id := 36) (ci := 1) (fun r9 σ9 h9 => kX1_standBy l D ad cy X A zs σ5 a3 r9 σ9 h9) gX5_begins_X1_standBy rfl rfl rfl hyX1_standBy ⟨Nat.le_of_ble_eq_true rfl, Nat.le_of_ble_eq_true rfl⟩ (by decide) (ceC_36 ad cy _ _ _) rfl rfl rfl (Nat.le_of_ble_eq_true rfl) dX5_begins_18 ⟨Nat.zero_le _, Nat.zero_le _⟩ h (fun r18 σ18 h => ?_)
    refine q_aload_n C dX5_begins_21 rfl 0 rfl ?_
    refine q_get C (Cn := RX5) (T := TX5) (Nf := 10) (ci := 5) (id := 0) (k := 8) (v := .ref (ad 36)) nX5_begins_X5 (by decide) (ceC_0 ad cy _ _ _) rfl (by decide) rfl hX5_begins_61 dX5_begins_22 ?_
    refine q_get C (Cn := RX1) (T := TX1) (Nf := 10) (ci := 1) (id := 36) (k := 3) (v := .ref (ad 37)) nX5_begins_X1 (by decide) (ceC_36 ad cy _ _ _) rfl (by decide) rfl hX5_begins_167 dX5_begins_25 ?_
    refine q_iload_n C dX5_begins_28 rfl 1 rfl ?_
    refine q_aald C (id := 37) (t0 := 6) (by decide) (ceC_37 ad cy _ _ _) rfl rfl dX5_begins_29 h (fun _ => rfl) (fun hr29 h => ?_)
    refine q_iload_n C dX5_begins_30 rfl 2 rfl ?_
    refine q_iald C (id := (38 + a1.toNatClampNeg)) (by omega) (ceC_r38 ad cy _ _ _ hr29) dX5_begins_31 h (fun h => ?_)
    exact q_iret C rfl dX5_begins_32 h
  · refine q_iconst C (v := -1) dX5_begins_11 (by decide) ?_
    exact q_iret C rfl dX5_begins_12 h
abbrev rmX5_by : Room := { frames := 6, cells := 0, slots := 0, locals := 149 }
theorem hyX5_by : yX5_by.cls = RX5 ∧ yX5_by.cls ≠ "java/lang/invoke/MethodHandle" ∧ yX5_by.cls ≠ "java/lang/invoke/VarHandle" ∧ (parseMethodDescriptor yX5_by.desc).map (fun d => d.parameters.length) = some 3 := by decide +kernel
theorem nX5_by_X1 : ∀ w ∈ u_ws RX1 TX1 10, w ∈ wsX5_by := fun w h => List.mem_cons_of_mem _ (List.mem_append_left _ (List.mem_append_left _ (List.mem_append_left _ (List.mem_append_right _ h))))
theorem nX5_by_X5 : ∀ w ∈ u_ws RX5 TX5 10, w ∈ wsX5_by := fun w h => List.mem_cons_of_mem _ (List.mem_append_left _ (List.mem_append_left _ (List.mem_append_left _ (List.mem_append_left _ (List.mem_append_right _ h)))))
theorem hX5_by_61 : Cond.fieldLink RX5 61 (TX5 8).1 (TX5 8).2.1 (TX5 8).2.2.1 ∈ wsX5_by := by decide +kernel
theorem hX5_by_170 : Cond.fieldLink RX5 170 (TX1 4).1 (TX1 4).2.1 (TX1 4).2.2.1 ∈ wsX5_by := by decide +kernel
def fX5_by (σ : St) (a1 : Int32) (a2 : Int32) (a3 : Int32) : Option (Int32 × St) := qcall (fX5_isAsked σ a1 a2 (1 : Int32) a3) (fun r5 σ5 => if r5 = (0 : Int32) then (some ((-1 : Int32), σ5)) else (qcall (fX1_standBy σ5 a3) (fun _ σ18 => qix a1 6 (qix a2 15 (some ((σ18.1 (45 + a1.toNatClampNeg) a2.toNatClampNeg), σ18))))))
set_option maxHeartbeats 4000000 in
set_option maxRecDepth 100000 in
theorem kX5_by (l : Launch) (D : va_G) (ad : Nat → Nat) (cy : Nat → ClassId) (X : va_W) (A : Nat → Prop) (zs : Nat × Nat × Option Nat) (σ : St) (a1 : Int32) (a2 : Int32) (a3 : Int32) (r0 : Int32) (σ0 : St) (h : fX5_by σ a1 a2 a3 = some (r0, σ0)) : Met l yX5_by wsX5_by rmX5_by (qPc ceC 96 ad cy X A D zs [.ref (ad 0), .int a1, .int a2, .int a3] σ) (qQi ceC 96 ad cy X A D r0 σ0) 0 0 A := by
  refine Met.ofW (cc := cX5_by) (maxL := 4) (ret := (some .int)) (by decide) rfl ?_
  intro p e s m args below meth c s₁ B hml hv
  obtain ⟨ha, hP, hK, hE, hD⟩ := hv
  have C : qC ceC 96 ad cy X A D zs cX5_by 4 RX5 wsX5_by p s m args meth c (some .int) := ⟨B.exec, B.bytes, hml, findClass_of_methodNamed B.named, atoms_spec (ws := wsX5_by) B.pre, hK, hD, B.returns, B.notSynchronized, hE⟩
  rw [show entryFrame m args 4 = entryFrame m ([.ref (ad 0), .int a1, .int a2, .int a3] : List Value).toArray 4 by rw [ha]]
  refine q_entry (A := A) (Nat.le_of_ble_eq_true rfl) hP (lv := [(0, .ref (ad 0)), (1, .int a1), (2, .int a2), (3, .int a3)]) rfl ?_
  unfold fX5_by at h
  refine q_aload_n C dX5_by_0 rfl 0 rfl ?_
  refine q_iload_n C dX5_by_1 rfl 1 rfl ?_
  refine q_iload_n C dX5_by_2 rfl 2 rfl ?_
  refine q_iconst C (v := 1) dX5_by_3 (by decide) ?_
  refine q_iload_n C dX5_by_4 rfl 3 rfl ?_
  refine q_callVi C (rm := rmX5_isAsked) (As := [.int a1, .int a2, .int (1 : Int32), .int a3]) (rest := []) (id := 0) (ci := 5) (fun r9 σ9 h9 => kX5_isAsked l D ad cy X A zs σ a1 a2 (1 : Int32) a3 r9 σ9 h9) gX5_by_X5_isAsked rfl rfl rfl hyX5_isAsked ⟨Nat.le_of_ble_eq_true rfl, Nat.le_of_ble_eq_true rfl⟩ (by decide) (ceC_0 ad cy _ _ _) rfl rfl rfl (Nat.le_of_ble_eq_true rfl) dX5_by_5 ⟨Nat.zero_le _, Nat.zero_le _⟩ h (fun r5 σ5 h => ?_)
  refine q_if_ne C (tgt := 13) dX5_by_8 (by decide) h (fun h => ?_) (fun h => ?_)
  · refine q_aload_n C dX5_by_13 rfl 0 rfl ?_
    refine q_get C (Cn := RX5) (T := TX5) (Nf := 10) (ci := 5) (id := 0) (k := 8) (v := .ref (ad 36)) nX5_by_X5 (by decide) (ceC_0 ad cy _ _ _) rfl (by decide) rfl hX5_by_61 dX5_by_14 ?_
    refine q_iload_n C dX5_by_17 rfl 3 rfl ?_
    refine q_callVv C (rm := rmX1_standBy) (As := [.int a3]) (rest := []) (id := 36) (ci := 1) (fun r9 σ9 h9 => kX1_standBy l D ad cy X A zs σ5 a3 r9 σ9 h9) gX5_by_X1_standBy rfl rfl rfl hyX1_standBy ⟨Nat.le_of_ble_eq_true rfl, Nat.le_of_ble_eq_true rfl⟩ (by decide) (ceC_36 ad cy _ _ _) rfl rfl rfl (Nat.le_of_ble_eq_true rfl) dX5_by_18 ⟨Nat.zero_le _, Nat.zero_le _⟩ h (fun r18 σ18 h => ?_)
    refine q_aload_n C dX5_by_21 rfl 0 rfl ?_
    refine q_get C (Cn := RX5) (T := TX5) (Nf := 10) (ci := 5) (id := 0) (k := 8) (v := .ref (ad 36)) nX5_by_X5 (by decide) (ceC_0 ad cy _ _ _) rfl (by decide) rfl hX5_by_61 dX5_by_22 ?_
    refine q_get C (Cn := RX1) (T := TX1) (Nf := 10) (ci := 1) (id := 36) (k := 4) (v := .ref (ad 44)) nX5_by_X1 (by decide) (ceC_36 ad cy _ _ _) rfl (by decide) rfl hX5_by_170 dX5_by_25 ?_
    refine q_iload_n C dX5_by_28 rfl 1 rfl ?_
    refine q_aald C (id := 44) (t0 := 6) (by decide) (ceC_44 ad cy _ _ _) rfl rfl dX5_by_29 h (fun _ => rfl) (fun hr29 h => ?_)
    refine q_iload_n C dX5_by_30 rfl 2 rfl ?_
    refine q_iald C (id := (45 + a1.toNatClampNeg)) (by omega) (ceC_r45 ad cy _ _ _ hr29) dX5_by_31 h (fun h => ?_)
    exact q_iret C rfl dX5_by_32 h
  · refine q_iconst C (v := -1) dX5_by_11 (by decide) ?_
    exact q_iret C rfl dX5_by_12 h
abbrev rmX5_heard : Room := { frames := 6, cells := 0, slots := 0, locals := 149 }
theorem hyX5_heard : yX5_heard.cls = RX5 ∧ yX5_heard.cls ≠ "java/lang/invoke/MethodHandle" ∧ yX5_heard.cls ≠ "java/lang/invoke/VarHandle" ∧ (parseMethodDescriptor yX5_heard.desc).map (fun d => d.parameters.length) = some 4 := by decide +kernel
theorem nX5_heard_X5 : ∀ w ∈ u_ws RX5 TX5 10, w ∈ wsX5_heard := fun w h => List.mem_cons_of_mem _ (List.mem_append_left _ (List.mem_append_left _ (List.mem_append_left _ (List.mem_append_left _ (List.mem_append_right _ h)))))
theorem hX5_heard_61 : Cond.fieldLink RX5 61 (TX5 8).1 (TX5 8).2.1 (TX5 8).2.2.1 ∈ wsX5_heard := by decide +kernel
def fX5_heard (σ : St) (a1 : Int32) (a2 : Int32) (a3 : Int32) (a4 : Int32) : Option (Int32 × St) := qcall (fX5_isAsked σ a1 a2 (1 : Int32) a4) (fun r6 σ6 => qlet (fun (y16 : Unit) => (some ((-1 : Int32), σ6))) (fun j16 => (if r6 = (0 : Int32) then (j16 ()) else (if (0 : Int32) ≤ a3 then (qcall (fX1_standBy σ6 a4) (fun _ σ24 => qcall (fX1_heardReport σ24 a1 a2 a3) (fun r34 σ34 => some (r34, σ34)))) else (j16 ())))))
set_option maxHeartbeats 4000000 in
set_option maxRecDepth 100000 in
theorem kX5_heard (l : Launch) (D : va_G) (ad : Nat → Nat) (cy : Nat → ClassId) (X : va_W) (A : Nat → Prop) (zs : Nat × Nat × Option Nat) (σ : St) (a1 : Int32) (a2 : Int32) (a3 : Int32) (a4 : Int32) (r0 : Int32) (σ0 : St) (h : fX5_heard σ a1 a2 a3 a4 = some (r0, σ0)) : Met l yX5_heard wsX5_heard rmX5_heard (qPc ceC 96 ad cy X A D zs [.ref (ad 0), .int a1, .int a2, .int a3, .int a4] σ) (qQi ceC 96 ad cy X A D r0 σ0) 0 0 A := by
  refine Met.ofW (cc := cX5_heard) (maxL := 5) (ret := (some .int)) (by decide) rfl ?_
  intro p e s m args below meth c s₁ B hml hv
  obtain ⟨ha, hP, hK, hE, hD⟩ := hv
  have C : qC ceC 96 ad cy X A D zs cX5_heard 5 RX5 wsX5_heard p s m args meth c (some .int) := ⟨B.exec, B.bytes, hml, findClass_of_methodNamed B.named, atoms_spec (ws := wsX5_heard) B.pre, hK, hD, B.returns, B.notSynchronized, hE⟩
  rw [show entryFrame m args 5 = entryFrame m ([.ref (ad 0), .int a1, .int a2, .int a3, .int a4] : List Value).toArray 5 by rw [ha]]
  refine q_entry (A := A) (Nat.le_of_ble_eq_true rfl) hP (lv := [(0, .ref (ad 0)), (1, .int a1), (2, .int a2), (3, .int a3), (4, .int a4)]) rfl ?_
  unfold fX5_heard at h
  refine q_aload_n C dX5_heard_0 rfl 0 rfl ?_
  refine q_iload_n C dX5_heard_1 rfl 1 rfl ?_
  refine q_iload_n C dX5_heard_2 rfl 2 rfl ?_
  refine q_iconst C (v := 1) dX5_heard_3 (by decide) ?_
  refine q_iload C dX5_heard_4 4 rfl ?_
  refine q_callVi C (rm := rmX5_isAsked) (As := [.int a1, .int a2, .int (1 : Int32), .int a4]) (rest := []) (id := 0) (ci := 5) (fun r9 σ9 h9 => kX5_isAsked l D ad cy X A zs σ a1 a2 (1 : Int32) a4 r9 σ9 h9) gX5_heard_X5_isAsked rfl rfl rfl hyX5_isAsked ⟨Nat.le_of_ble_eq_true rfl, Nat.le_of_ble_eq_true rfl⟩ (by decide) (ceC_0 ad cy _ _ _) rfl rfl rfl (Nat.le_of_ble_eq_true rfl) dX5_heard_6 ⟨Nat.zero_le _, Nat.zero_le _⟩ h (fun r6 σ6 h => ?_)
  refine q_join (G := fun (y16 : Unit) => qVi ceC 96 ad cy X A D p l e (headSpec wsX5_heard rmX5_heard).room s m args below meth c 5 r0 σ0 16 [] [] σ6) h (fun y16 h => ?_) (fun j16 hj16 h => ?_)
  · refine q_iconst C (v := -1) dX5_heard_16 (by decide) ?_
    exact q_iret C rfl dX5_heard_17 h
  refine q_if_eq C (tgt := 16) dX5_heard_9 (by decide) h (fun h => ?_) (fun h => ?_)
  · exact q_sub [] rfl (hj16 () h)
  · refine q_iload_n C dX5_heard_12 rfl 3 rfl ?_
    refine q_if_ge C (tgt := 18) dX5_heard_13 (by decide) h (fun h => ?_) (fun h => ?_)
    · refine q_aload_n C dX5_heard_18 rfl 0 rfl ?_
      refine q_get C (Cn := RX5) (T := TX5) (Nf := 10) (ci := 5) (id := 0) (k := 8) (v := .ref (ad 36)) nX5_heard_X5 (by decide) (ceC_0 ad cy _ _ _) rfl (by decide) rfl hX5_heard_61 dX5_heard_19 ?_
      refine q_iload C dX5_heard_22 4 rfl ?_
      refine q_callVv C (rm := rmX1_standBy) (As := [.int a4]) (rest := []) (id := 36) (ci := 1) (fun r9 σ9 h9 => kX1_standBy l D ad cy X A zs σ6 a4 r9 σ9 h9) gX5_heard_X1_standBy rfl rfl rfl hyX1_standBy ⟨Nat.le_of_ble_eq_true rfl, Nat.le_of_ble_eq_true rfl⟩ (by decide) (ceC_36 ad cy _ _ _) rfl rfl rfl (Nat.le_of_ble_eq_true rfl) dX5_heard_24 ⟨Nat.zero_le _, Nat.zero_le _⟩ h (fun r24 σ24 h => ?_)
      refine q_aload_n C dX5_heard_27 rfl 0 rfl ?_
      refine q_get C (Cn := RX5) (T := TX5) (Nf := 10) (ci := 5) (id := 0) (k := 8) (v := .ref (ad 36)) nX5_heard_X5 (by decide) (ceC_0 ad cy _ _ _) rfl (by decide) rfl hX5_heard_61 dX5_heard_28 ?_
      refine q_iload_n C dX5_heard_31 rfl 1 rfl ?_
      refine q_iload_n C dX5_heard_32 rfl 2 rfl ?_
      refine q_iload_n C dX5_heard_33 rfl 3 rfl ?_
      refine q_callVi C (rm := rmX1_heardReport) (As := [.int a1, .int a2, .int a3]) (rest := []) (id := 36) (ci := 1) (fun r9 σ9 h9 => kX1_heardReport l D ad cy X A zs σ24 a1 a2 a3 r9 σ9 h9) gX5_heard_X1_heardReport rfl rfl rfl hyX1_heardReport ⟨Nat.le_of_ble_eq_true rfl, Nat.le_of_ble_eq_true rfl⟩ (by decide) (ceC_36 ad cy _ _ _) rfl rfl rfl (Nat.le_of_ble_eq_true rfl) dX5_heard_34 ⟨Nat.zero_le _, Nat.zero_le _⟩ h (fun r34 σ34 h => ?_)
      exact q_iret C rfl dX5_heard_37 h
    · exact q_sub [] rfl (hj16 () h)
abbrev rmX5_date : Room := { frames := 6, cells := 0, slots := 0, locals := 149 }
theorem hyX5_date : yX5_date.cls = RX5 ∧ yX5_date.cls ≠ "java/lang/invoke/MethodHandle" ∧ yX5_date.cls ≠ "java/lang/invoke/VarHandle" ∧ (parseMethodDescriptor yX5_date.desc).map (fun d => d.parameters.length) = some 3 := by decide +kernel
theorem nX5_date_X5 : ∀ w ∈ u_ws RX5 TX5 10, w ∈ wsX5_date := fun w h => List.mem_cons_of_mem _ (List.mem_append_left _ (List.mem_append_left _ (List.mem_append_left _ (List.mem_append_left _ (List.mem_append_right _ h)))))
theorem hX5_date_23 : Cond.fieldLink RX5 23 (TX5 3).1 (TX5 3).2.1 (TX5 3).2.2.1 ∈ wsX5_date := by decide +kernel
theorem hX5_date_32 : Cond.fieldLink RX5 32 (TX5 4).1 (TX5 4).2.1 (TX5 4).2.2.1 ∈ wsX5_date := by decide +kernel
theorem hX5_date_61 : Cond.fieldLink RX5 61 (TX5 8).1 (TX5 8).2.1 (TX5 8).2.2.1 ∈ wsX5_date := by decide +kernel
def fX5_date (σ : St) (a1 : Int32) (a2 : Int32) (a3 : Int32) : Option (Int32 × St) := qcall (fX4_isLand σ a1) (fun r5 σ5 => qlet (fun (y29 : St) => (some ((-1 : Int32), y29))) (fun j29 => (if r5 = (0 : Int32) then (j29 σ5) else (qcall (fX5_isEvening σ5 a2) (fun r12 σ12 => if r12 = (0 : Int32) then (j29 σ12) else (qcall (fX0_canBeKnownBy σ12 a3) (fun r23 σ23 => if r23 = (0 : Int32) then (j29 σ23) else (qcall (fX1_standBy σ23 a3) (fun _ σ36 => qcall (fX1_dateOn σ36 a1 a2) (fun r45 σ45 => some (r45, σ45)))))))))))
set_option maxHeartbeats 4000000 in
set_option maxRecDepth 100000 in
theorem kX5_date (l : Launch) (D : va_G) (ad : Nat → Nat) (cy : Nat → ClassId) (X : va_W) (A : Nat → Prop) (zs : Nat × Nat × Option Nat) (σ : St) (a1 : Int32) (a2 : Int32) (a3 : Int32) (r0 : Int32) (σ0 : St) (h : fX5_date σ a1 a2 a3 = some (r0, σ0)) : Met l yX5_date wsX5_date rmX5_date (qPc ceC 96 ad cy X A D zs [.ref (ad 0), .int a1, .int a2, .int a3] σ) (qQi ceC 96 ad cy X A D r0 σ0) 0 0 A := by
  refine Met.ofW (cc := cX5_date) (maxL := 4) (ret := (some .int)) (by decide) rfl ?_
  intro p e s m args below meth c s₁ B hml hv
  obtain ⟨ha, hP, hK, hE, hD⟩ := hv
  have C : qC ceC 96 ad cy X A D zs cX5_date 4 RX5 wsX5_date p s m args meth c (some .int) := ⟨B.exec, B.bytes, hml, findClass_of_methodNamed B.named, atoms_spec (ws := wsX5_date) B.pre, hK, hD, B.returns, B.notSynchronized, hE⟩
  rw [show entryFrame m args 4 = entryFrame m ([.ref (ad 0), .int a1, .int a2, .int a3] : List Value).toArray 4 by rw [ha]]
  refine q_entry (A := A) (Nat.le_of_ble_eq_true rfl) hP (lv := [(0, .ref (ad 0)), (1, .int a1), (2, .int a2), (3, .int a3)]) rfl ?_
  unfold fX5_date at h
  refine q_aload_n C dX5_date_0 rfl 0 rfl ?_
  refine q_get C (Cn := RX5) (T := TX5) (Nf := 10) (ci := 5) (id := 0) (k := 3) (v := .ref (ad 2)) nX5_date_X5 (by decide) (ceC_0 ad cy _ _ _) rfl (by decide) rfl hX5_date_23 dX5_date_1 ?_
  refine q_iload_n C dX5_date_4 rfl 1 rfl ?_
  refine q_callVi C (rm := rmX4_isLand) (As := [.int a1]) (rest := []) (id := 2) (ci := 4) (fun r9 σ9 h9 => kX4_isLand l D ad cy X A zs σ a1 r9 σ9 h9) gX5_date_X4_isLand rfl rfl rfl hyX4_isLand ⟨Nat.le_of_ble_eq_true rfl, Nat.le_of_ble_eq_true rfl⟩ (by decide) (ceC_2 ad cy _ _ _) rfl rfl rfl (Nat.le_of_ble_eq_true rfl) dX5_date_5 ⟨Nat.zero_le _, Nat.zero_le _⟩ h (fun r5 σ5 h => ?_)
  refine q_join (G := fun (y29 : St) => qVi ceC 96 ad cy X A D p l e (headSpec wsX5_date rmX5_date).room s m args below meth c 4 r0 σ0 29 [] [] y29) h (fun y29 h => ?_) (fun j29 hj29 h => ?_)
  · refine q_iconst C (v := -1) dX5_date_29 (by decide) ?_
    exact q_iret C rfl dX5_date_30 h
  refine q_if_eq C (tgt := 29) dX5_date_8 (by decide) h (fun h => ?_) (fun h => ?_)
  · exact q_sub [] rfl (hj29 σ5 h)
  · refine q_iload_n C dX5_date_11 rfl 2 rfl ?_
    refine q_callSi C (rm := rmX5_isEvening) (As := [.int a2]) (rest := []) (fun r9 σ9 h9 => kX5_isEvening l D ad cy X A zs σ5 a2 r9 σ9 h9) gX5_date_X5_isEvening rfl rfl rfl hyX5_isEvening ⟨Nat.le_of_ble_eq_true rfl, Nat.le_of_ble_eq_true rfl⟩ rfl rfl (Nat.le_of_ble_eq_true rfl) dX5_date_12 ⟨Nat.zero_le _, Nat.zero_le _⟩ h (fun r12 σ12 h => ?_)
    refine q_if_eq C (tgt := 29) dX5_date_15 (by decide) h (fun h => ?_) (fun h => ?_)
    · exact q_sub [] rfl (hj29 σ12 h)
    · refine q_aload_n C dX5_date_18 rfl 0 rfl ?_
      refine q_get C (Cn := RX5) (T := TX5) (Nf := 10) (ci := 5) (id := 0) (k := 4) (v := .ref (ad 21)) nX5_date_X5 (by decide) (ceC_0 ad cy _ _ _) rfl (by decide) rfl hX5_date_32 dX5_date_19 ?_
      refine q_iload_n C dX5_date_22 rfl 3 rfl ?_
      refine q_callVi C (rm := rmX0_canBeKnownBy) (As := [.int a3]) (rest := []) (id := 21) (ci := 0) (fun r9 σ9 h9 => kX0_canBeKnownBy l D ad cy X A zs σ12 a3 r9 σ9 h9) gX5_date_X0_canBeKnownBy rfl rfl rfl hyX0_canBeKnownBy ⟨Nat.le_of_ble_eq_true rfl, Nat.le_of_ble_eq_true rfl⟩ (by decide) (ceC_21 ad cy _ _ _) rfl rfl rfl (Nat.le_of_ble_eq_true rfl) dX5_date_23 ⟨Nat.zero_le _, Nat.zero_le _⟩ h (fun r23 σ23 h => ?_)
      refine q_if_ne C (tgt := 31) dX5_date_26 (by decide) h (fun h => ?_) (fun h => ?_)
      · refine q_aload_n C dX5_date_31 rfl 0 rfl ?_
        refine q_get C (Cn := RX5) (T := TX5) (Nf := 10) (ci := 5) (id := 0) (k := 8) (v := .ref (ad 36)) nX5_date_X5 (by decide) (ceC_0 ad cy _ _ _) rfl (by decide) rfl hX5_date_61 dX5_date_32 ?_
        refine q_iload_n C dX5_date_35 rfl 3 rfl ?_
        refine q_callVv C (rm := rmX1_standBy) (As := [.int a3]) (rest := []) (id := 36) (ci := 1) (fun r9 σ9 h9 => kX1_standBy l D ad cy X A zs σ23 a3 r9 σ9 h9) gX5_date_X1_standBy rfl rfl rfl hyX1_standBy ⟨Nat.le_of_ble_eq_true rfl, Nat.le_of_ble_eq_true rfl⟩ (by decide) (ceC_36 ad cy _ _ _) rfl rfl rfl (Nat.le_of_ble_eq_true rfl) dX5_date_36 ⟨Nat.zero_le _, Nat.zero_le _⟩ h (fun r36 σ36 h => ?_)
        refine q_aload_n C dX5_date_39 rfl 0 rfl ?_
        refine q_get C (Cn := RX5) (T := TX5) (Nf := 10) (ci := 5) (id := 0) (k := 8) (v := .ref (ad 36)) nX5_date_X5 (by decide) (ceC_0 ad cy _ _ _) rfl (by decide) rfl hX5_date_61 dX5_date_40 ?_
        refine q_iload_n C dX5_date_43 rfl 1 rfl ?_
        refine q_iload_n C dX5_date_44 rfl 2 rfl ?_
        refine q_callVi C (rm := rmX1_dateOn) (As := [.int a1, .int a2]) (rest := []) (id := 36) (ci := 1) (fun r9 σ9 h9 => kX1_dateOn l D ad cy X A zs σ36 a1 a2 r9 σ9 h9) gX5_date_X1_dateOn rfl rfl rfl hyX1_dateOn ⟨Nat.le_of_ble_eq_true rfl, Nat.le_of_ble_eq_true rfl⟩ (by decide) (ceC_36 ad cy _ _ _) rfl rfl rfl (Nat.le_of_ble_eq_true rfl) dX5_date_45 ⟨Nat.zero_le _, Nat.zero_le _⟩ h (fun r45 σ45 h => ?_)
        exact q_iret C rfl dX5_date_48 h
      · exact q_sub [] rfl (hj29 σ23 h)
abbrev rmX5_turn : Room := { frames := 6, cells := 0, slots := 0, locals := 149 }
theorem hyX5_turn : yX5_turn.cls = RX5 ∧ yX5_turn.cls ≠ "java/lang/invoke/MethodHandle" ∧ yX5_turn.cls ≠ "java/lang/invoke/VarHandle" ∧ (parseMethodDescriptor yX5_turn.desc).map (fun d => d.parameters.length) = some 5 := by decide +kernel
theorem nX5_turn_X5 : ∀ w ∈ u_ws RX5 TX5 10, w ∈ wsX5_turn := fun w h => List.mem_cons_of_mem _ (List.mem_append_left _ (List.mem_append_left _ (List.mem_append_left _ (List.mem_append_left _ (List.mem_append_right _ h)))))
theorem hX5_turn_23 : Cond.fieldLink RX5 23 (TX5 3).1 (TX5 3).2.1 (TX5 3).2.2.1 ∈ wsX5_turn := by decide +kernel
theorem hX5_turn_61 : Cond.fieldLink RX5 61 (TX5 8).1 (TX5 8).2.1 (TX5 8).2.2.1 ∈ wsX5_turn := by decide +kernel
def fX5_turn (σ : St) (a1 : Int32) (a2 : Int32) (a3 : Int32) (a4 : Int32) (a5 : Int32) : Option (Int32 × St) := qcall (fX5_isAsked σ a1 a2 (0 : Int32) a5) (fun r6 σ6 => qlet (fun (y35 : St) => (some ((-1 : Int32), y35))) (fun j35 => (if r6 = (0 : Int32) then (j35 σ6) else (qcall (fX4_isLand σ6 a4) (fun r18 σ18 => if r18 = (0 : Int32) then (j35 σ18) else (if a3 < (1 : Int32) then (j35 σ18) else (if a3 ≤ (30 : Int32) then (qcall (fX1_standBy σ18 a5) (fun _ σ43 => qcall (fX1_eveningOf σ43 a1 a2 a3) (fun r53 σ53 => qlet (fun (y79 : Int32 × St) => (some (y79.1, y79.2))) (fun j79 => (if r53 = (-1 : Int32) then (j79 ((-1 : Int32), σ53)) else (qcall (fX1_dateOn σ53 a4 r53) (fun r76 σ76 => j79 (r76, σ76)))))))) else (j35 σ18))))))))
set_option maxHeartbeats 4000000 in
set_option maxRecDepth 100000 in
theorem kX5_turn (l : Launch) (D : va_G) (ad : Nat → Nat) (cy : Nat → ClassId) (X : va_W) (A : Nat → Prop) (zs : Nat × Nat × Option Nat) (σ : St) (a1 : Int32) (a2 : Int32) (a3 : Int32) (a4 : Int32) (a5 : Int32) (r0 : Int32) (σ0 : St) (h : fX5_turn σ a1 a2 a3 a4 a5 = some (r0, σ0)) : Met l yX5_turn wsX5_turn rmX5_turn (qPc ceC 96 ad cy X A D zs [.ref (ad 0), .int a1, .int a2, .int a3, .int a4, .int a5] σ) (qQi ceC 96 ad cy X A D r0 σ0) 0 0 A := by
  refine Met.ofW (cc := cX5_turn) (maxL := 7) (ret := (some .int)) (by decide) rfl ?_
  intro p e s m args below meth c s₁ B hml hv
  obtain ⟨ha, hP, hK, hE, hD⟩ := hv
  have C : qC ceC 96 ad cy X A D zs cX5_turn 7 RX5 wsX5_turn p s m args meth c (some .int) := ⟨B.exec, B.bytes, hml, findClass_of_methodNamed B.named, atoms_spec (ws := wsX5_turn) B.pre, hK, hD, B.returns, B.notSynchronized, hE⟩
  rw [show entryFrame m args 7 = entryFrame m ([.ref (ad 0), .int a1, .int a2, .int a3, .int a4, .int a5] : List Value).toArray 7 by rw [ha]]
  refine q_entry (A := A) (Nat.le_of_ble_eq_true rfl) hP (lv := [(0, .ref (ad 0)), (1, .int a1), (2, .int a2), (3, .int a3), (4, .int a4), (5, .int a5)]) rfl ?_
  unfold fX5_turn at h
  refine q_aload_n C dX5_turn_0 rfl 0 rfl ?_
  refine q_iload_n C dX5_turn_1 rfl 1 rfl ?_
  refine q_iload_n C dX5_turn_2 rfl 2 rfl ?_
  refine q_iconst C (v := 0) dX5_turn_3 (by decide) ?_
  refine q_iload C dX5_turn_4 5 rfl ?_
  refine q_callVi C (rm := rmX5_isAsked) (As := [.int a1, .int a2, .int (0 : Int32), .int a5]) (rest := []) (id := 0) (ci := 5) (fun r9 σ9 h9 => kX5_isAsked l D ad cy X A zs σ a1 a2 (0 : Int32) a5 r9 σ9 h9) gX5_turn_X5_isAsked rfl rfl rfl hyX5_isAsked ⟨Nat.le_of_ble_eq_true rfl, Nat.le_of_ble_eq_true rfl⟩ (by decide) (ceC_0 ad cy _ _ _) rfl rfl rfl (Nat.le_of_ble_eq_true rfl) dX5_turn_6 ⟨Nat.zero_le _, Nat.zero_le _⟩ h (fun r6 σ6 h => ?_)
  refine q_join (G := fun (y35 : St) => qVi ceC 96 ad cy X A D p l e (headSpec wsX5_turn rmX5_turn).room s m args below meth c 7 r0 σ0 35 [] [] y35) h (fun y35 h => ?_) (fun j35 hj35 h => ?_)
  · refine q_iconst C (v := -1) dX5_turn_35 (by decide) ?_
    exact q_iret C rfl dX5_turn_36 h
  refine q_if_eq C (tgt := 35) dX5_turn_9 (by decide) h (fun h => ?_) (fun h => ?_)
  · exact q_sub [] rfl (hj35 σ6 h)
  · refine q_aload_n C dX5_turn_12 rfl 0 rfl ?_
    refine q_get C (Cn := RX5) (T := TX5) (Nf := 10) (ci := 5) (id := 0) (k := 3) (v := .ref (ad 2)) nX5_turn_X5 (by decide) (ceC_0 ad cy _ _ _) rfl (by decide) rfl hX5_turn_23 dX5_turn_13 ?_
    refine q_iload C dX5_turn_16 4 rfl ?_
    refine q_callVi C (rm := rmX4_isLand) (As := [.int a4]) (rest := []) (id := 2) (ci := 4) (fun r9 σ9 h9 => kX4_isLand l D ad cy X A zs σ6 a4 r9 σ9 h9) gX5_turn_X4_isLand rfl rfl rfl hyX4_isLand ⟨Nat.le_of_ble_eq_true rfl, Nat.le_of_ble_eq_true rfl⟩ (by decide) (ceC_2 ad cy _ _ _) rfl rfl rfl (Nat.le_of_ble_eq_true rfl) dX5_turn_18 ⟨Nat.zero_le _, Nat.zero_le _⟩ h (fun r18 σ18 h => ?_)
    refine q_if_eq C (tgt := 35) dX5_turn_21 (by decide) h (fun h => ?_) (fun h => ?_)
    · exact q_sub [] rfl (hj35 σ18 h)
    · refine q_iload_n C dX5_turn_24 rfl 3 rfl ?_
      refine q_iconst C (v := 1) dX5_turn_25 (by decide) ?_
      refine q_icmp_lt C (tgt := 35) dX5_turn_26 (by decide) h (fun h => ?_) (fun h => ?_)
      · exact q_sub [] rfl (hj35 σ18 h)
      · refine q_iload_n C dX5_turn_29 rfl 3 rfl ?_
        refine q_bipush C (v := 30) dX5_turn_30 (by decide) ?_
        refine q_icmp_le C (tgt := 37) dX5_turn_32 (by decide) h (fun h => ?_) (fun h => ?_)
        · refine q_aload_n C dX5_turn_37 rfl 0 rfl ?_
          refine q_get C (Cn := RX5) (T := TX5) (Nf := 10) (ci := 5) (id := 0) (k := 8) (v := .ref (ad 36)) nX5_turn_X5 (by decide) (ceC_0 ad cy _ _ _) rfl (by decide) rfl hX5_turn_61 dX5_turn_38 ?_
          refine q_iload C dX5_turn_41 5 rfl ?_
          refine q_callVv C (rm := rmX1_standBy) (As := [.int a5]) (rest := []) (id := 36) (ci := 1) (fun r9 σ9 h9 => kX1_standBy l D ad cy X A zs σ18 a5 r9 σ9 h9) gX5_turn_X1_standBy rfl rfl rfl hyX1_standBy ⟨Nat.le_of_ble_eq_true rfl, Nat.le_of_ble_eq_true rfl⟩ (by decide) (ceC_36 ad cy _ _ _) rfl rfl rfl (Nat.le_of_ble_eq_true rfl) dX5_turn_43 ⟨Nat.zero_le _, Nat.zero_le _⟩ h (fun r43 σ43 h => ?_)
          refine q_aload_n C dX5_turn_46 rfl 0 rfl ?_
          refine q_get C (Cn := RX5) (T := TX5) (Nf := 10) (ci := 5) (id := 0) (k := 8) (v := .ref (ad 36)) nX5_turn_X5 (by decide) (ceC_0 ad cy _ _ _) rfl (by decide) rfl hX5_turn_61 dX5_turn_47 ?_
          refine q_iload_n C dX5_turn_50 rfl 1 rfl ?_
          refine q_iload_n C dX5_turn_51 rfl 2 rfl ?_
          refine q_iload_n C dX5_turn_52 rfl 3 rfl ?_
          refine q_callVi C (rm := rmX1_eveningOf) (As := [.int a1, .int a2, .int a3]) (rest := []) (id := 36) (ci := 1) (fun r9 σ9 h9 => kX1_eveningOf l D ad cy X A zs σ43 a1 a2 a3 r9 σ9 h9) gX5_turn_X1_eveningOf rfl rfl rfl hyX1_eveningOf ⟨Nat.le_of_ble_eq_true rfl, Nat.le_of_ble_eq_true rfl⟩ (by decide) (ceC_36 ad cy _ _ _) rfl rfl rfl (Nat.le_of_ble_eq_true rfl) dX5_turn_53 ⟨Nat.zero_le _, Nat.zero_le _⟩ h (fun r53 σ53 h => ?_)
          refine q_istore C dX5_turn_56 (by decide) (lv' := [(0, .ref (ad 0)), (1, .int a1), (2, .int a2), (3, .int a3), (4, .int a4), (5, .int a5), (6, .int r53)]) rfl ?_
          refine q_iload C dX5_turn_58 6 rfl ?_
          refine q_iconst C (v := -1) dX5_turn_60 (by decide) ?_
          refine q_join (G := fun (y79 : Int32 × St) => qVi ceC 96 ad cy X A D p l e (headSpec wsX5_turn rmX5_turn).room s m args below meth c 7 r0 σ0 79 [] [.int y79.1] y79.2) h (fun y79 h => ?_) (fun j79 hj79 h => ?_)
          · exact q_iret C rfl dX5_turn_79 h
          refine q_icmp_ne C (tgt := 68) dX5_turn_61 (by decide) h (fun h => ?_) (fun h => ?_)
          · refine q_aload_n C dX5_turn_68 rfl 0 rfl ?_
            refine q_get C (Cn := RX5) (T := TX5) (Nf := 10) (ci := 5) (id := 0) (k := 8) (v := .ref (ad 36)) nX5_turn_X5 (by decide) (ceC_0 ad cy _ _ _) rfl (by decide) rfl hX5_turn_61 dX5_turn_69 ?_
            refine q_iload C dX5_turn_72 4 rfl ?_
            refine q_iload C dX5_turn_74 6 rfl ?_
            refine q_callVi C (rm := rmX1_dateOn) (As := [.int a4, .int r53]) (rest := []) (id := 36) (ci := 1) (fun r9 σ9 h9 => kX1_dateOn l D ad cy X A zs σ53 a4 r53 r9 σ9 h9) gX5_turn_X1_dateOn rfl rfl rfl hyX1_dateOn ⟨Nat.le_of_ble_eq_true rfl, Nat.le_of_ble_eq_true rfl⟩ (by decide) (ceC_36 ad cy _ _ _) rfl rfl rfl (Nat.le_of_ble_eq_true rfl) dX5_turn_76 ⟨Nat.zero_le _, Nat.zero_le _⟩ h (fun r76 σ76 h => ?_)
            exact q_sub [] rfl (hj79 (r76, σ76) h)
          · refine q_iconst C (v := -1) dX5_turn_64 (by decide) ?_
            refine q_goto C (tgt := 79) dX5_turn_65 (by decide) ?_
            exact q_sub [] rfl (hj79 ((-1 : Int32), σ53) h)
        · exact q_sub [] rfl (hj35 σ18 h)
abbrev rmX5_unlike : Room := { frames := 6, cells := 0, slots := 0, locals := 149 }
theorem hyX5_unlike : yX5_unlike.cls = RX5 ∧ yX5_unlike.cls ≠ "java/lang/invoke/MethodHandle" ∧ yX5_unlike.cls ≠ "java/lang/invoke/VarHandle" ∧ (parseMethodDescriptor yX5_unlike.desc).map (fun d => d.parameters.length) = some 5 := by decide +kernel
theorem nX5_unlike_X5 : ∀ w ∈ u_ws RX5 TX5 10, w ∈ wsX5_unlike := fun w h => List.mem_cons_of_mem _ (List.mem_append_left _ (List.mem_append_left _ (List.mem_append_left _ (List.mem_append_left _ (List.mem_append_right _ h)))))
theorem hX5_unlike_23 : Cond.fieldLink RX5 23 (TX5 3).1 (TX5 3).2.1 (TX5 3).2.2.1 ∈ wsX5_unlike := by decide +kernel
theorem hX5_unlike_32 : Cond.fieldLink RX5 32 (TX5 4).1 (TX5 4).2.1 (TX5 4).2.2.1 ∈ wsX5_unlike := by decide +kernel
theorem hX5_unlike_61 : Cond.fieldLink RX5 61 (TX5 8).1 (TX5 8).2.1 (TX5 8).2.2.1 ∈ wsX5_unlike := by decide +kernel
def fX5_unlike_L (a1 : Int32) (a2 : Int32) (a3 : Int32) (a4 : Int32) (a5 : Int32) : Nat → Int32 → Int32 → St → Option (Int32 × St)
  | 0, _, _, _ => none
  | n + 1, v6, v7, σ => if a4 < v7 then (some (v6, σ)) else (qcall (fX1_dateOn σ a1 v7) (fun r88 σ88 => qcall (fX1_dateOn σ88 a2 v7) (fun r98 σ98 => qlet (fun (y107 : Int32) => (qlet (v7 + (1 : Int32)) (fun x107 => fX5_unlike_L a1 a2 a3 a4 a5 n y107 x107 σ98))) (fun j107 => (if r88 = r98 then (j107 v6) else (qlet (v6 + (1 : Int32)) (fun x104 => j107 x104)))))))
def fX5_unlike (σ : St) (a1 : Int32) (a2 : Int32) (a3 : Int32) (a4 : Int32) (a5 : Int32) : Option (Int32 × St) := qcall (fX4_isLand σ a1) (fun r5 σ5 => qlet (fun (y34 : St) => (some ((-1 : Int32), y34))) (fun j34 => (if r5 = (0 : Int32) then (j34 σ5) else (qcall (fX4_isLand σ5 a2) (fun r16 σ16 => if r16 = (0 : Int32) then (j34 σ16) else (qcall (fX0_canBeKnownBy σ16 a5) (fun r28 σ28 => if r28 = (0 : Int32) then (j34 σ28) else (qcall (fX5_isEvening σ28 a3) (fun r37 σ37 => qlet (fun (y57 : St) => (some ((-1 : Int32), y57))) (fun j57 => (if r37 = (0 : Int32) then (j57 σ37) else (qcall (fX5_isEvening σ37 a4) (fun r45 σ45 => if r45 = (0 : Int32) then (j57 σ45) else (if a3 ≤ a4 then (qcall (fX1_standBy σ45 a5) (fun _ σ65 => fX5_unlike_L a1 a2 a3 a4 a5 100000 (0 : Int32) a3 σ65)) else (j57 σ45)))))))))))))))
set_option maxHeartbeats 4000000 in
set_option maxRecDepth 100000 in
theorem kX5_unlike_L {ad : Nat → Nat} {cy : Nat → ClassId} {X : va_W} {A : Nat → Prop} {D : va_G} {zs : Nat × Nat × Option Nat} {p : Program} {l : Launch} {e : Env} {s : State} {m : MethodId} {args : Array Value} {below : List Frame} {meth : Method} {c : Code} {a1 : Int32} {a2 : Int32} {a3 : Int32} {a4 : Int32} {a5 : Int32} (C : qC ceC 96 ad cy X A D zs cX5_unlike 8 RX5 wsX5_unlike p s m args meth c (some .int)) (r0 : Int32) (σ0 : St) (n : Nat) : (∀ (v6 : Int32) (v7 : Int32) (σ : St), fX5_unlike_L a1 a2 a3 a4 a5 n v6 v7 σ = some (r0, σ0) → qVi ceC 96 ad cy X A D p l e (headSpec wsX5_unlike rmX5_unlike).room s m args below meth c 8 r0 σ0 74 [(0, .ref (ad 0)), (1, .int a1), (2, .int a2), (4, .int a4), (6, .int v6), (7, .int v7)] [] σ) := by
  induction n with
  | zero =>
    intro v6 v7 σ h; cases h
  | succ n ih =>
    intro v6 v7 σ h
    rw [fX5_unlike_L] at h
    refine q_iload C dX5_unlike_74 5 rfl ?_
    refine q_iload C dX5_unlike_76 3 rfl ?_
    refine q_icmp_gt C (tgt := 113) dX5_unlike_78 (by decide) h (fun h => ?_) (fun h => ?_)
    · refine q_iload C dX5_unlike_113 4 rfl ?_
      exact q_iret C rfl dX5_unlike_115 h
    · refine q_aload_n C dX5_unlike_81 rfl 0 rfl ?_
      refine q_get C (Cn := RX5) (T := TX5) (Nf := 10) (ci := 5) (id := 0) (k := 8) (v := .ref (ad 36)) nX5_unlike_X5 (by decide) (ceC_0 ad cy _ _ _) rfl (by decide) rfl hX5_unlike_61 dX5_unlike_82 ?_
      refine q_iload_n C dX5_unlike_85 rfl 1 rfl ?_
      refine q_iload C dX5_unlike_86 5 rfl ?_
      refine q_callVi C (rm := rmX1_dateOn) (As := [.int a1, .int v7]) (rest := []) (id := 36) (ci := 1) (fun r9 σ9 h9 => kX1_dateOn l D ad cy X A zs σ a1 v7 r9 σ9 h9) gX5_unlike_X1_dateOn rfl rfl rfl hyX1_dateOn ⟨Nat.le_of_ble_eq_true rfl, Nat.le_of_ble_eq_true rfl⟩ (by decide) (ceC_36 ad cy _ _ _) rfl rfl rfl (Nat.le_of_ble_eq_true rfl) dX5_unlike_88 ⟨Nat.zero_le _, Nat.zero_le _⟩ h (fun r88 σ88 h => ?_)
      refine q_aload_n C dX5_unlike_91 rfl 0 rfl ?_
      refine q_get C (Cn := RX5) (T := TX5) (Nf := 10) (ci := 5) (id := 0) (k := 8) (v := .ref (ad 36)) nX5_unlike_X5 (by decide) (ceC_0 ad cy _ _ _) rfl (by decide) rfl hX5_unlike_61 dX5_unlike_92 ?_
      refine q_iload_n C dX5_unlike_95 rfl 2 rfl ?_
      refine q_iload C dX5_unlike_96 5 rfl ?_
      refine q_callVi C (rm := rmX1_dateOn) (As := [.int a2, .int v7]) (rest := [.int r88]) (id := 36) (ci := 1) (fun r9 σ9 h9 => kX1_dateOn l D ad cy X A zs σ88 a2 v7 r9 σ9 h9) gX5_unlike_X1_dateOn rfl rfl rfl hyX1_dateOn ⟨Nat.le_of_ble_eq_true rfl, Nat.le_of_ble_eq_true rfl⟩ (by decide) (ceC_36 ad cy _ _ _) rfl rfl rfl (Nat.le_of_ble_eq_true rfl) dX5_unlike_98 ⟨Nat.zero_le _, Nat.zero_le _⟩ h (fun r98 σ98 h => ?_)
      refine q_join (G := fun (y107 : Int32) => qVi ceC 96 ad cy X A D p l e (headSpec wsX5_unlike rmX5_unlike).room s m args below meth c 8 r0 σ0 107 [(0, .ref (ad 0)), (1, .int a1), (2, .int a2), (4, .int a4), (6, .int y107), (7, .int v7)] [] σ98) h (fun y107 h => ?_) (fun j107 hj107 h => ?_)
      · refine q_iincL C dX5_unlike_107 5 rfl (by decide) (nv := 1) (by decide) h (lw := fun x107 => [(0, .ref (ad 0)), (1, .int a1), (2, .int a2), (4, .int a4), (6, .int y107), (7, .int x107)]) (fun _ => rfl) (fun x107 h => ?_)
        refine q_goto C (tgt := 74) dX5_unlike_110 (by decide) ?_
        exact q_sub [0, 1, 2, 3, 4, 5] rfl (ih y107 x107 σ98 h)
      refine q_icmp_eq C (tgt := 107) dX5_unlike_101 (by decide) h (fun h => ?_) (fun h => ?_)
      · exact q_sub [0, 1, 2, 3, 4, 5] rfl (hj107 v6 h)
      · refine q_iincL C dX5_unlike_104 4 rfl (by decide) (nv := 1) (by decide) h (lw := fun x104 => [(0, .ref (ad 0)), (1, .int a1), (2, .int a2), (4, .int a4), (6, .int x104), (7, .int v7)]) (fun _ => rfl) (fun x104 h => ?_)
        exact q_sub [0, 1, 2, 3, 4, 5] rfl (hj107 x104 h)
set_option maxHeartbeats 4000000 in
set_option maxRecDepth 100000 in
theorem kX5_unlike (l : Launch) (D : va_G) (ad : Nat → Nat) (cy : Nat → ClassId) (X : va_W) (A : Nat → Prop) (zs : Nat × Nat × Option Nat) (σ : St) (a1 : Int32) (a2 : Int32) (a3 : Int32) (a4 : Int32) (a5 : Int32) (r0 : Int32) (σ0 : St) (h : fX5_unlike σ a1 a2 a3 a4 a5 = some (r0, σ0)) : Met l yX5_unlike wsX5_unlike rmX5_unlike (qPc ceC 96 ad cy X A D zs [.ref (ad 0), .int a1, .int a2, .int a3, .int a4, .int a5] σ) (qQi ceC 96 ad cy X A D r0 σ0) 0 0 A := by
  refine Met.ofW (cc := cX5_unlike) (maxL := 8) (ret := (some .int)) (by decide) rfl ?_
  intro p e s m args below meth c s₁ B hml hv
  obtain ⟨ha, hP, hK, hE, hD⟩ := hv
  have C : qC ceC 96 ad cy X A D zs cX5_unlike 8 RX5 wsX5_unlike p s m args meth c (some .int) := ⟨B.exec, B.bytes, hml, findClass_of_methodNamed B.named, atoms_spec (ws := wsX5_unlike) B.pre, hK, hD, B.returns, B.notSynchronized, hE⟩
  rw [show entryFrame m args 8 = entryFrame m ([.ref (ad 0), .int a1, .int a2, .int a3, .int a4, .int a5] : List Value).toArray 8 by rw [ha]]
  refine q_entry (A := A) (Nat.le_of_ble_eq_true rfl) hP (lv := [(0, .ref (ad 0)), (1, .int a1), (2, .int a2), (3, .int a3), (4, .int a4), (5, .int a5)]) rfl ?_
  unfold fX5_unlike at h
  refine q_aload_n C dX5_unlike_0 rfl 0 rfl ?_
  refine q_get C (Cn := RX5) (T := TX5) (Nf := 10) (ci := 5) (id := 0) (k := 3) (v := .ref (ad 2)) nX5_unlike_X5 (by decide) (ceC_0 ad cy _ _ _) rfl (by decide) rfl hX5_unlike_23 dX5_unlike_1 ?_
  refine q_iload_n C dX5_unlike_4 rfl 1 rfl ?_
  refine q_callVi C (rm := rmX4_isLand) (As := [.int a1]) (rest := []) (id := 2) (ci := 4) (fun r9 σ9 h9 => kX4_isLand l D ad cy X A zs σ a1 r9 σ9 h9) gX5_unlike_X4_isLand rfl rfl rfl hyX4_isLand ⟨Nat.le_of_ble_eq_true rfl, Nat.le_of_ble_eq_true rfl⟩ (by decide) (ceC_2 ad cy _ _ _) rfl rfl rfl (Nat.le_of_ble_eq_true rfl) dX5_unlike_5 ⟨Nat.zero_le _, Nat.zero_le _⟩ h (fun r5 σ5 h => ?_)
  refine q_join (G := fun (y34 : St) => qVi ceC 96 ad cy X A D p l e (headSpec wsX5_unlike rmX5_unlike).room s m args below meth c 8 r0 σ0 34 [] [] y34) h (fun y34 h => ?_) (fun j34 hj34 h => ?_)
  · refine q_iconst C (v := -1) dX5_unlike_34 (by decide) ?_
    exact q_iret C rfl dX5_unlike_35 h
  refine q_if_eq C (tgt := 34) dX5_unlike_8 (by decide) h (fun h => ?_) (fun h => ?_)
  · exact q_sub [] rfl (hj34 σ5 h)
  · refine q_aload_n C dX5_unlike_11 rfl 0 rfl ?_
    refine q_get C (Cn := RX5) (T := TX5) (Nf := 10) (ci := 5) (id := 0) (k := 3) (v := .ref (ad 2)) nX5_unlike_X5 (by decide) (ceC_0 ad cy _ _ _) rfl (by decide) rfl hX5_unlike_23 dX5_unlike_12 ?_
    refine q_iload_n C dX5_unlike_15 rfl 2 rfl ?_
    refine q_callVi C (rm := rmX4_isLand) (As := [.int a2]) (rest := []) (id := 2) (ci := 4) (fun r9 σ9 h9 => kX4_isLand l D ad cy X A zs σ5 a2 r9 σ9 h9) gX5_unlike_X4_isLand rfl rfl rfl hyX4_isLand ⟨Nat.le_of_ble_eq_true rfl, Nat.le_of_ble_eq_true rfl⟩ (by decide) (ceC_2 ad cy _ _ _) rfl rfl rfl (Nat.le_of_ble_eq_true rfl) dX5_unlike_16 ⟨Nat.zero_le _, Nat.zero_le _⟩ h (fun r16 σ16 h => ?_)
    refine q_if_eq C (tgt := 34) dX5_unlike_19 (by decide) h (fun h => ?_) (fun h => ?_)
    · exact q_sub [] rfl (hj34 σ16 h)
    · refine q_aload_n C dX5_unlike_22 rfl 0 rfl ?_
      refine q_get C (Cn := RX5) (T := TX5) (Nf := 10) (ci := 5) (id := 0) (k := 4) (v := .ref (ad 21)) nX5_unlike_X5 (by decide) (ceC_0 ad cy _ _ _) rfl (by decide) rfl hX5_unlike_32 dX5_unlike_23 ?_
      refine q_iload C dX5_unlike_26 5 rfl ?_
      refine q_callVi C (rm := rmX0_canBeKnownBy) (As := [.int a5]) (rest := []) (id := 21) (ci := 0) (fun r9 σ9 h9 => kX0_canBeKnownBy l D ad cy X A zs σ16 a5 r9 σ9 h9) gX5_unlike_X0_canBeKnownBy rfl rfl rfl hyX0_canBeKnownBy ⟨Nat.le_of_ble_eq_true rfl, Nat.le_of_ble_eq_true rfl⟩ (by decide) (ceC_21 ad cy _ _ _) rfl rfl rfl (Nat.le_of_ble_eq_true rfl) dX5_unlike_28 ⟨Nat.zero_le _, Nat.zero_le _⟩ h (fun r28 σ28 h => ?_)
      refine q_if_ne C (tgt := 36) dX5_unlike_31 (by decide) h (fun h => ?_) (fun h => ?_)
      · refine q_iload_n C dX5_unlike_36 rfl 3 rfl ?_
        refine q_callSi C (rm := rmX5_isEvening) (As := [.int a3]) (rest := []) (fun r9 σ9 h9 => kX5_isEvening l D ad cy X A zs σ28 a3 r9 σ9 h9) gX5_unlike_X5_isEvening rfl rfl rfl hyX5_isEvening ⟨Nat.le_of_ble_eq_true rfl, Nat.le_of_ble_eq_true rfl⟩ rfl rfl (Nat.le_of_ble_eq_true rfl) dX5_unlike_37 ⟨Nat.zero_le _, Nat.zero_le _⟩ h (fun r37 σ37 h => ?_)
        refine q_join (G := fun (y57 : St) => qVi ceC 96 ad cy X A D p l e (headSpec wsX5_unlike rmX5_unlike).room s m args below meth c 8 r0 σ0 57 [] [] y57) h (fun y57 h => ?_) (fun j57 hj57 h => ?_)
        · refine q_iconst C (v := -1) dX5_unlike_57 (by decide) ?_
          exact q_iret C rfl dX5_unlike_58 h
        refine q_if_eq C (tgt := 57) dX5_unlike_40 (by decide) h (fun h => ?_) (fun h => ?_)
        · exact q_sub [] rfl (hj57 σ37 h)
        · refine q_iload C dX5_unlike_43 4 rfl ?_
          refine q_callSi C (rm := rmX5_isEvening) (As := [.int a4]) (rest := []) (fun r9 σ9 h9 => kX5_isEvening l D ad cy X A zs σ37 a4 r9 σ9 h9) gX5_unlike_X5_isEvening rfl rfl rfl hyX5_isEvening ⟨Nat.le_of_ble_eq_true rfl, Nat.le_of_ble_eq_true rfl⟩ rfl rfl (Nat.le_of_ble_eq_true rfl) dX5_unlike_45 ⟨Nat.zero_le _, Nat.zero_le _⟩ h (fun r45 σ45 h => ?_)
          refine q_if_eq C (tgt := 57) dX5_unlike_48 (by decide) h (fun h => ?_) (fun h => ?_)
          · exact q_sub [] rfl (hj57 σ45 h)
          · refine q_iload_n C dX5_unlike_51 rfl 3 rfl ?_
            refine q_iload C dX5_unlike_52 4 rfl ?_
            refine q_icmp_le C (tgt := 59) dX5_unlike_54 (by decide) h (fun h => ?_) (fun h => ?_)
            · refine q_aload_n C dX5_unlike_59 rfl 0 rfl ?_
              refine q_get C (Cn := RX5) (T := TX5) (Nf := 10) (ci := 5) (id := 0) (k := 8) (v := .ref (ad 36)) nX5_unlike_X5 (by decide) (ceC_0 ad cy _ _ _) rfl (by decide) rfl hX5_unlike_61 dX5_unlike_60 ?_
              refine q_iload C dX5_unlike_63 5 rfl ?_
              refine q_callVv C (rm := rmX1_standBy) (As := [.int a5]) (rest := []) (id := 36) (ci := 1) (fun r9 σ9 h9 => kX1_standBy l D ad cy X A zs σ45 a5 r9 σ9 h9) gX5_unlike_X1_standBy rfl rfl rfl hyX1_standBy ⟨Nat.le_of_ble_eq_true rfl, Nat.le_of_ble_eq_true rfl⟩ (by decide) (ceC_36 ad cy _ _ _) rfl rfl rfl (Nat.le_of_ble_eq_true rfl) dX5_unlike_65 ⟨Nat.zero_le _, Nat.zero_le _⟩ h (fun r65 σ65 h => ?_)
              refine q_iconst C (v := 0) dX5_unlike_68 (by decide) ?_
              refine q_istore C dX5_unlike_69 (by decide) (lv' := [(0, .ref (ad 0)), (1, .int a1), (2, .int a2), (3, .int a3), (4, .int a4), (5, .int a5), (6, .int (0 : Int32))]) rfl ?_
              refine q_iload_n C dX5_unlike_71 rfl 3 rfl ?_
              refine q_istore C dX5_unlike_72 (by decide) (lv' := [(0, .ref (ad 0)), (1, .int a1), (2, .int a2), (3, .int a3), (4, .int a4), (5, .int a5), (6, .int (0 : Int32)), (7, .int a3)]) rfl ?_
              exact q_sub [0, 1, 2, 4, 6, 7] rfl ((kX5_unlike_L C r0 σ0 100000) (0 : Int32) a3 σ65 h)
            · exact q_sub [] rfl (hj57 σ45 h)
      · exact q_sub [] rfl (hj34 σ28 h)
abbrev rmX5_changed : Room := { frames := 6, cells := 0, slots := 0, locals := 149 }
theorem hyX5_changed : yX5_changed.cls = RX5 ∧ yX5_changed.cls ≠ "java/lang/invoke/MethodHandle" ∧ yX5_changed.cls ≠ "java/lang/invoke/VarHandle" ∧ (parseMethodDescriptor yX5_changed.desc).map (fun d => d.parameters.length) = some 3 := by decide +kernel
theorem nX5_changed_X1 : ∀ w ∈ u_ws RX1 TX1 10, w ∈ wsX5_changed := fun w h => List.mem_cons_of_mem _ (List.mem_append_left _ (List.mem_append_left _ (List.mem_append_left _ (List.mem_append_right _ h))))
theorem nX5_changed_X5 : ∀ w ∈ u_ws RX5 TX5 10, w ∈ wsX5_changed := fun w h => List.mem_cons_of_mem _ (List.mem_append_left _ (List.mem_append_left _ (List.mem_append_left _ (List.mem_append_left _ (List.mem_append_right _ h)))))
theorem hX5_changed_23 : Cond.fieldLink RX5 23 (TX5 3).1 (TX5 3).2.1 (TX5 3).2.2.1 ∈ wsX5_changed := by decide +kernel
theorem hX5_changed_32 : Cond.fieldLink RX5 32 (TX5 4).1 (TX5 4).2.1 (TX5 4).2.2.1 ∈ wsX5_changed := by decide +kernel
theorem hX5_changed_61 : Cond.fieldLink RX5 61 (TX5 8).1 (TX5 8).2.1 (TX5 8).2.2.1 ∈ wsX5_changed := by decide +kernel
theorem hX5_changed_167 : Cond.fieldLink RX5 167 (TX1 3).1 (TX1 3).2.1 (TX1 3).2.2.1 ∈ wsX5_changed := by decide +kernel
theorem hX5_changed_65 : Cond.fieldLink RX5 65 (TX5 9).1 (TX5 9).2.1 (TX5 9).2.2.1 ∈ wsX5_changed := by decide +kernel
theorem hX5_changed_183 : Cond.methodLink RX5 183 arraycopyName ∈ wsX5_changed := by decide +kernel
theorem hX5_changed_acn : Cond.native arraycopyName ∈ wsX5_changed := by decide +kernel
theorem hX5_changed_acs : Cond.static arraycopyName ∈ wsX5_changed := by decide +kernel
theorem hX5_changed_aci : Cond.initialized "java/lang/System" ∈ wsX5_changed := by decide +kernel
def fX5_changed_L (a1 : Int32) (a2 : Int32) (a3 : Int32) : Nat → Int32 → St → Option (Int32 × St)
  | 0, _, _ => none
  | n + 1, v4, σ => if (14 : Int32) < v4 then (some ((-1 : Int32), σ)) else (qix a1 6 (qix v4 15 (qix v4 15 (if (σ.1 (38 + a1.toNatClampNeg) v4.toNatClampNeg) = (σ.1 60 v4.toNatClampNeg) then (qlet (v4 + (1 : Int32)) (fun x106 => fX5_changed_L a1 a2 a3 n x106 σ)) else (some (v4, σ))))))
def fX5_changed (σ : St) (a1 : Int32) (a2 : Int32) (a3 : Int32) : Option (Int32 × St) := qcall (fX4_isLand σ a1) (fun r5 σ5 => qlet (fun (y33 : St) => (some ((-1 : Int32), y33))) (fun j33 => (if r5 = (0 : Int32) then (j33 σ5) else (qcall (fX0_canBeKnownBy σ5 a2) (fun r16 σ16 => if r16 = (0 : Int32) then (j33 σ16) else (qcall (fX0_canBeKnownBy σ16 a3) (fun r27 σ27 => if r27 = (0 : Int32) then (j33 σ27) else (qcall (fX1_standBy σ27 a2) (fun _ σ40 => qix a1 6 (qlet (sR σ40 60 (va_cpy (σ40.1 (38 + a1.toNatClampNeg)) (σ40.1 60) (0 : Int32).toNatClampNeg (0 : Int32).toNatClampNeg (15 : Int32).toNatClampNeg)) (fun σ60 => qcall (fX1_standBy σ60 a3) (fun _ σ68 => fX5_changed_L a1 a2 a3 100000 (1 : Int32) σ68))))))))))))
set_option maxHeartbeats 4000000 in
set_option maxRecDepth 100000 in
theorem kX5_changed_L {ad : Nat → Nat} {cy : Nat → ClassId} {X : va_W} {A : Nat → Prop} {D : va_G} {zs : Nat × Nat × Option Nat} {p : Program} {l : Launch} {e : Env} {s : State} {m : MethodId} {args : Array Value} {below : List Frame} {meth : Method} {c : Code} {a1 : Int32} {a2 : Int32} {a3 : Int32} (C : qC ceC 96 ad cy X A D zs cX5_changed 5 RX5 wsX5_changed p s m args meth c (some .int)) (r0 : Int32) (σ0 : St) (n : Nat) : (∀ (v4 : Int32) (σ : St), fX5_changed_L a1 a2 a3 n v4 σ = some (r0, σ0) → qVi ceC 96 ad cy X A D p l e (headSpec wsX5_changed rmX5_changed).room s m args below meth c 5 r0 σ0 74 [(0, .ref (ad 0)), (1, .int a1), (4, .int v4)] [] σ) := by
  induction n with
  | zero =>
    intro v4 σ h; cases h
  | succ n ih =>
    intro v4 σ h
    rw [fX5_changed_L] at h
    refine q_iload C dX5_changed_74 2 rfl ?_
    refine q_bipush C (v := 14) dX5_changed_76 (by decide) ?_
    refine q_icmp_gt C (tgt := 112) dX5_changed_78 (by decide) h (fun h => ?_) (fun h => ?_)
    · refine q_iconst C (v := -1) dX5_changed_112 (by decide) ?_
      exact q_iret C rfl dX5_changed_113 h
    · refine q_aload_n C dX5_changed_81 rfl 0 rfl ?_
      refine q_get C (Cn := RX5) (T := TX5) (Nf := 10) (ci := 5) (id := 0) (k := 8) (v := .ref (ad 36)) nX5_changed_X5 (by decide) (ceC_0 ad cy _ _ _) rfl (by decide) rfl hX5_changed_61 dX5_changed_82 ?_
      refine q_get C (Cn := RX1) (T := TX1) (Nf := 10) (ci := 1) (id := 36) (k := 3) (v := .ref (ad 37)) nX5_changed_X1 (by decide) (ceC_36 ad cy _ _ _) rfl (by decide) rfl hX5_changed_167 dX5_changed_85 ?_
      refine q_iload_n C dX5_changed_88 rfl 1 rfl ?_
      refine q_aald C (id := 37) (t0 := 6) (by decide) (ceC_37 ad cy _ _ _) rfl rfl dX5_changed_89 h (fun _ => rfl) (fun hr89 h => ?_)
      refine q_iload C dX5_changed_90 2 rfl ?_
      refine q_iald C (id := (38 + a1.toNatClampNeg)) (by omega) (ceC_r38 ad cy _ _ _ hr89) dX5_changed_92 h (fun h => ?_)
      refine q_aload_n C dX5_changed_93 rfl 0 rfl ?_
      refine q_get C (Cn := RX5) (T := TX5) (Nf := 10) (ci := 5) (id := 0) (k := 9) (v := .ref (ad 60)) nX5_changed_X5 (by decide) (ceC_0 ad cy _ _ _) rfl (by decide) rfl hX5_changed_65 dX5_changed_94 ?_
      refine q_iload C dX5_changed_97 2 rfl ?_
      refine q_iald C (id := 60) (by decide) (ceC_60 ad cy _ _ _) dX5_changed_99 h (fun h => ?_)
      refine q_icmp_eq C (tgt := 106) dX5_changed_100 (by decide) h (fun h => ?_) (fun h => ?_)
      · refine q_iincL C dX5_changed_106 2 rfl (by decide) (nv := 1) (by decide) h (lw := fun x106 => [(0, .ref (ad 0)), (1, .int a1), (4, .int x106)]) (fun _ => rfl) (fun x106 h => ?_)
        refine q_goto C (tgt := 74) dX5_changed_109 (by decide) ?_
        exact q_sub [0, 1, 2] rfl (ih x106 σ h)
      · refine q_iload C dX5_changed_103 2 rfl ?_
        exact q_iret C rfl dX5_changed_105 h
set_option maxHeartbeats 4000000 in
set_option maxRecDepth 100000 in
theorem kX5_changed (l : Launch) (D : va_G) (ad : Nat → Nat) (cy : Nat → ClassId) (X : va_W) (A : Nat → Prop) (zs : Nat × Nat × Option Nat) (σ : St) (a1 : Int32) (a2 : Int32) (a3 : Int32) (r0 : Int32) (σ0 : St) (h : fX5_changed σ a1 a2 a3 = some (r0, σ0)) : Met l yX5_changed wsX5_changed rmX5_changed (qPc ceC 96 ad cy X A D zs [.ref (ad 0), .int a1, .int a2, .int a3] σ) (qQi ceC 96 ad cy X A D r0 σ0) 0 0 A := by
  refine Met.ofW (cc := cX5_changed) (maxL := 5) (ret := (some .int)) (by decide) rfl ?_
  intro p e s m args below meth c s₁ B hml hv
  obtain ⟨ha, hP, hK, hE, hD⟩ := hv
  have C : qC ceC 96 ad cy X A D zs cX5_changed 5 RX5 wsX5_changed p s m args meth c (some .int) := ⟨B.exec, B.bytes, hml, findClass_of_methodNamed B.named, atoms_spec (ws := wsX5_changed) B.pre, hK, hD, B.returns, B.notSynchronized, hE⟩
  rw [show entryFrame m args 5 = entryFrame m ([.ref (ad 0), .int a1, .int a2, .int a3] : List Value).toArray 5 by rw [ha]]
  refine q_entry (A := A) (Nat.le_of_ble_eq_true rfl) hP (lv := [(0, .ref (ad 0)), (1, .int a1), (2, .int a2), (3, .int a3)]) rfl ?_
  unfold fX5_changed at h
  refine q_aload_n C dX5_changed_0 rfl 0 rfl ?_
  refine q_get C (Cn := RX5) (T := TX5) (Nf := 10) (ci := 5) (id := 0) (k := 3) (v := .ref (ad 2)) nX5_changed_X5 (by decide) (ceC_0 ad cy _ _ _) rfl (by decide) rfl hX5_changed_23 dX5_changed_1 ?_
  refine q_iload_n C dX5_changed_4 rfl 1 rfl ?_
  refine q_callVi C (rm := rmX4_isLand) (As := [.int a1]) (rest := []) (id := 2) (ci := 4) (fun r9 σ9 h9 => kX4_isLand l D ad cy X A zs σ a1 r9 σ9 h9) gX5_changed_X4_isLand rfl rfl rfl hyX4_isLand ⟨Nat.le_of_ble_eq_true rfl, Nat.le_of_ble_eq_true rfl⟩ (by decide) (ceC_2 ad cy _ _ _) rfl rfl rfl (Nat.le_of_ble_eq_true rfl) dX5_changed_5 ⟨Nat.zero_le _, Nat.zero_le _⟩ h (fun r5 σ5 h => ?_)
  refine q_join (G := fun (y33 : St) => qVi ceC 96 ad cy X A D p l e (headSpec wsX5_changed rmX5_changed).room s m args below meth c 5 r0 σ0 33 [] [] y33) h (fun y33 h => ?_) (fun j33 hj33 h => ?_)
  · refine q_iconst C (v := -1) dX5_changed_33 (by decide) ?_
    exact q_iret C rfl dX5_changed_34 h
  refine q_if_eq C (tgt := 33) dX5_changed_8 (by decide) h (fun h => ?_) (fun h => ?_)
  · exact q_sub [] rfl (hj33 σ5 h)
  · refine q_aload_n C dX5_changed_11 rfl 0 rfl ?_
    refine q_get C (Cn := RX5) (T := TX5) (Nf := 10) (ci := 5) (id := 0) (k := 4) (v := .ref (ad 21)) nX5_changed_X5 (by decide) (ceC_0 ad cy _ _ _) rfl (by decide) rfl hX5_changed_32 dX5_changed_12 ?_
    refine q_iload_n C dX5_changed_15 rfl 2 rfl ?_
    refine q_callVi C (rm := rmX0_canBeKnownBy) (As := [.int a2]) (rest := []) (id := 21) (ci := 0) (fun r9 σ9 h9 => kX0_canBeKnownBy l D ad cy X A zs σ5 a2 r9 σ9 h9) gX5_changed_X0_canBeKnownBy rfl rfl rfl hyX0_canBeKnownBy ⟨Nat.le_of_ble_eq_true rfl, Nat.le_of_ble_eq_true rfl⟩ (by decide) (ceC_21 ad cy _ _ _) rfl rfl rfl (Nat.le_of_ble_eq_true rfl) dX5_changed_16 ⟨Nat.zero_le _, Nat.zero_le _⟩ h (fun r16 σ16 h => ?_)
    refine q_if_eq C (tgt := 33) dX5_changed_19 (by decide) h (fun h => ?_) (fun h => ?_)
    · exact q_sub [] rfl (hj33 σ16 h)
    · refine q_aload_n C dX5_changed_22 rfl 0 rfl ?_
      refine q_get C (Cn := RX5) (T := TX5) (Nf := 10) (ci := 5) (id := 0) (k := 4) (v := .ref (ad 21)) nX5_changed_X5 (by decide) (ceC_0 ad cy _ _ _) rfl (by decide) rfl hX5_changed_32 dX5_changed_23 ?_
      refine q_iload_n C dX5_changed_26 rfl 3 rfl ?_
      refine q_callVi C (rm := rmX0_canBeKnownBy) (As := [.int a3]) (rest := []) (id := 21) (ci := 0) (fun r9 σ9 h9 => kX0_canBeKnownBy l D ad cy X A zs σ16 a3 r9 σ9 h9) gX5_changed_X0_canBeKnownBy rfl rfl rfl hyX0_canBeKnownBy ⟨Nat.le_of_ble_eq_true rfl, Nat.le_of_ble_eq_true rfl⟩ (by decide) (ceC_21 ad cy _ _ _) rfl rfl rfl (Nat.le_of_ble_eq_true rfl) dX5_changed_27 ⟨Nat.zero_le _, Nat.zero_le _⟩ h (fun r27 σ27 h => ?_)
      refine q_if_ne C (tgt := 35) dX5_changed_30 (by decide) h (fun h => ?_) (fun h => ?_)
      · refine q_aload_n C dX5_changed_35 rfl 0 rfl ?_
        refine q_get C (Cn := RX5) (T := TX5) (Nf := 10) (ci := 5) (id := 0) (k := 8) (v := .ref (ad 36)) nX5_changed_X5 (by decide) (ceC_0 ad cy _ _ _) rfl (by decide) rfl hX5_changed_61 dX5_changed_36 ?_
        refine q_iload_n C dX5_changed_39 rfl 2 rfl ?_
        refine q_callVv C (rm := rmX1_standBy) (As := [.int a2]) (rest := []) (id := 36) (ci := 1) (fun r9 σ9 h9 => kX1_standBy l D ad cy X A zs σ27 a2 r9 σ9 h9) gX5_changed_X1_standBy rfl rfl rfl hyX1_standBy ⟨Nat.le_of_ble_eq_true rfl, Nat.le_of_ble_eq_true rfl⟩ (by decide) (ceC_36 ad cy _ _ _) rfl rfl rfl (Nat.le_of_ble_eq_true rfl) dX5_changed_40 ⟨Nat.zero_le _, Nat.zero_le _⟩ h (fun r40 σ40 h => ?_)
        refine q_aload_n C dX5_changed_43 rfl 0 rfl ?_
        refine q_get C (Cn := RX5) (T := TX5) (Nf := 10) (ci := 5) (id := 0) (k := 8) (v := .ref (ad 36)) nX5_changed_X5 (by decide) (ceC_0 ad cy _ _ _) rfl (by decide) rfl hX5_changed_61 dX5_changed_44 ?_
        refine q_get C (Cn := RX1) (T := TX1) (Nf := 10) (ci := 1) (id := 36) (k := 3) (v := .ref (ad 37)) nX5_changed_X1 (by decide) (ceC_36 ad cy _ _ _) rfl (by decide) rfl hX5_changed_167 dX5_changed_47 ?_
        refine q_iload_n C dX5_changed_50 rfl 1 rfl ?_
        refine q_aald C (id := 37) (t0 := 6) (by decide) (ceC_37 ad cy _ _ _) rfl rfl dX5_changed_51 h (fun _ => rfl) (fun hr51 h => ?_)
        refine q_iconst C (v := 0) dX5_changed_52 (by decide) ?_
        refine q_aload_n C dX5_changed_53 rfl 0 rfl ?_
        refine q_get C (Cn := RX5) (T := TX5) (Nf := 10) (ci := 5) (id := 0) (k := 9) (v := .ref (ad 60)) nX5_changed_X5 (by decide) (ceC_0 ad cy _ _ _) rfl (by decide) rfl hX5_changed_65 dX5_changed_54 ?_
        refine q_iconst C (v := 0) dX5_changed_57 (by decide) ?_
        refine q_bipush C (v := 15) dX5_changed_58 (by decide) ?_
        refine q_copyI C (i0 := (38 + a1.toNatClampNeg)) (i1 := 60) (by omega) (by decide) (ceC_r38 ad cy _ _ _ hr51) (fun f g => ceC_60 ad cy _ f g) hX5_changed_183 hX5_changed_acn hX5_changed_acs hX5_changed_aci (by decide) (by decide) (by decide) (by decide) (by decide) (Nat.le_of_ble_eq_true rfl) (Nat.le_of_ble_eq_true rfl) dX5_changed_60 h (fun σ60 h => ?_)
        refine q_aload_n C dX5_changed_63 rfl 0 rfl ?_
        refine q_get C (Cn := RX5) (T := TX5) (Nf := 10) (ci := 5) (id := 0) (k := 8) (v := .ref (ad 36)) nX5_changed_X5 (by decide) (ceC_0 ad cy _ _ _) rfl (by decide) rfl hX5_changed_61 dX5_changed_64 ?_
        refine q_iload_n C dX5_changed_67 rfl 3 rfl ?_
        refine q_callVv C (rm := rmX1_standBy) (As := [.int a3]) (rest := []) (id := 36) (ci := 1) (fun r9 σ9 h9 => kX1_standBy l D ad cy X A zs σ60 a3 r9 σ9 h9) gX5_changed_X1_standBy rfl rfl rfl hyX1_standBy ⟨Nat.le_of_ble_eq_true rfl, Nat.le_of_ble_eq_true rfl⟩ (by decide) (ceC_36 ad cy _ _ _) rfl rfl rfl (Nat.le_of_ble_eq_true rfl) dX5_changed_68 ⟨Nat.zero_le _, Nat.zero_le _⟩ h (fun r68 σ68 h => ?_)
        refine q_iconst C (v := 1) dX5_changed_71 (by decide) ?_
        refine q_istore C dX5_changed_72 (by decide) (lv' := [(0, .ref (ad 0)), (1, .int a1), (2, .int a2), (3, .int a3), (4, .int (1 : Int32))]) rfl ?_
        exact q_sub [0, 1, 4] rfl ((kX5_changed_L C r0 σ0 100000) (1 : Int32) σ68 h)
      · exact q_sub [] rfl (hj33 σ27 h)
abbrev rmX5_countRules : Room := { frames := 0, cells := 0, slots := 0, locals := 0 }
theorem hyX5_countRules : yX5_countRules.cls = RX5 ∧ yX5_countRules.cls ≠ "java/lang/invoke/MethodHandle" ∧ yX5_countRules.cls ≠ "java/lang/invoke/VarHandle" ∧ (parseMethodDescriptor yX5_countRules.desc).map (fun d => d.parameters.length) = some 0 := by decide +kernel
theorem nX5_countRules_X3 : ∀ w ∈ u_ws RX3 TX3 6, w ∈ wsX5_countRules := by decide +kernel
theorem nX5_countRules_X5 : ∀ w ∈ u_ws RX5 TX5 10, w ∈ wsX5_countRules := by decide +kernel
theorem hX5_countRules_38 : Cond.fieldLink RX5 38 (TX5 5).1 (TX5 5).2.1 (TX5 5).2.2.1 ∈ wsX5_countRules := by decide +kernel
theorem hX5_countRules_193 : Cond.fieldLink RX5 193 (TX3 5).1 (TX3 5).2.1 (TX3 5).2.2.1 ∈ wsX5_countRules := by decide +kernel
def fX5_countRules_L : Nat → Int32 → Int32 → St → Option (Int32 × St)
  | 0, _, _, _ => none
  | n + 1, v1, v2, σ => if (6 : Int32) ≤ v2 then (some (v1, σ)) else (qix v2 6 (qlet (σ.2.2 v2.toNatClampNeg) (fun t16 => qtx t16 (qlet (v1 + (σ.1 (61 + 5 * t16) 5)) (fun x21 => qlet (v2 + (1 : Int32)) (fun x22 => fX5_countRules_L n x21 x22 σ))))))
def fX5_countRules (σ : St) : Option (Int32 × St) := fX5_countRules_L 100000 (0 : Int32) (0 : Int32) σ
set_option maxHeartbeats 4000000 in
set_option maxRecDepth 100000 in
theorem kX5_countRules_L {ad : Nat → Nat} {cy : Nat → ClassId} {X : va_W} {A : Nat → Prop} {D : va_G} {zs : Nat × Nat × Option Nat} {p : Program} {l : Launch} {e : Env} {s : State} {m : MethodId} {args : Array Value} {below : List Frame} {meth : Method} {c : Code} (C : qC ceC 96 ad cy X A D zs cX5_countRules 3 RX5 wsX5_countRules p s m args meth c (some .int)) (r0 : Int32) (σ0 : St) (n : Nat) : (∀ (v1 : Int32) (v2 : Int32) (σ : St), fX5_countRules_L n v1 v2 σ = some (r0, σ0) → qVi ceC 96 ad cy X A D p l e (headSpec wsX5_countRules rmX5_countRules).room s m args below meth c 3 r0 σ0 4 [(0, .ref (ad 0)), (1, .int v1), (2, .int v2)] [] σ) := by
  induction n with
  | zero =>
    intro v1 v2 σ h; cases h
  | succ n ih =>
    intro v1 v2 σ h
    rw [fX5_countRules_L] at h
    refine q_iload_n C dX5_countRules_4 rfl 2 rfl ?_
    refine q_bipush C (v := 6) dX5_countRules_5 (by decide) ?_
    refine q_icmp_ge C (tgt := 28) dX5_countRules_7 (by decide) h (fun h => ?_) (fun h => ?_)
    · refine q_iload_n C dX5_countRules_28 rfl 1 rfl ?_
      exact q_iret C rfl dX5_countRules_29 h
    · refine q_iload_n C dX5_countRules_10 rfl 1 rfl ?_
      refine q_aload_n C dX5_countRules_11 rfl 0 rfl ?_
      refine q_get C (Cn := RX5) (T := TX5) (Nf := 10) (ci := 5) (id := 0) (k := 5) (v := .ref (ad 33)) nX5_countRules_X5 (by decide) (ceC_0 ad cy _ _ _) rfl (by decide) rfl hX5_countRules_38 dX5_countRules_12 ?_
      refine q_iload_n C dX5_countRules_15 rfl 2 rfl ?_
      refine q_aaldT C dX5_countRules_16 h (fun t16 ht16 h => ?_)
      refine q_get C (Cn := RX3) (T := TX3) (Nf := 6) (ci := 3) (id := (61 + 5 * t16)) (k := 5) (v := .int (σ.1 (61 + 5 * t16) 5)) nX5_countRules_X3 (by omega) (ceC_t0 ad cy _ _ _ t16) rfl (by decide) rfl hX5_countRules_193 dX5_countRules_17 ?_
      refine q_iadd C dX5_countRules_20 ?_
      refine q_istore_nL C dX5_countRules_21 rfl (by decide) h (lw := fun x21 => [(0, .ref (ad 0)), (1, .int x21), (2, .int v2)]) (fun _ => rfl) (fun x21 h => ?_)
      refine q_iincL C dX5_countRules_22 2 rfl (by decide) (nv := 1) (by decide) h (lw := fun x22 => [(0, .ref (ad 0)), (1, .int x21), (2, .int x22)]) (fun _ => rfl) (fun x22 h => ?_)
      refine q_goto C (tgt := 4) dX5_countRules_25 (by decide) ?_
      exact q_sub [0, 1, 2] rfl (ih x21 x22 σ h)
set_option maxHeartbeats 4000000 in
set_option maxRecDepth 100000 in
theorem kX5_countRules (l : Launch) (D : va_G) (ad : Nat → Nat) (cy : Nat → ClassId) (X : va_W) (A : Nat → Prop) (zs : Nat × Nat × Option Nat) (σ : St) (r0 : Int32) (σ0 : St) (h : fX5_countRules σ = some (r0, σ0)) : Met l yX5_countRules wsX5_countRules rmX5_countRules (qPc ceC 96 ad cy X A D zs [.ref (ad 0)] σ) (qQi ceC 96 ad cy X A D r0 σ0) 0 0 A := by
  refine Met.ofW (cc := cX5_countRules) (maxL := 3) (ret := (some .int)) (by decide) rfl ?_
  intro p e s m args below meth c s₁ B hml hv
  obtain ⟨ha, hP, hK, hE, hD⟩ := hv
  have C : qC ceC 96 ad cy X A D zs cX5_countRules 3 RX5 wsX5_countRules p s m args meth c (some .int) := ⟨B.exec, B.bytes, hml, findClass_of_methodNamed B.named, atoms_spec (ws := wsX5_countRules) B.pre, hK, hD, B.returns, B.notSynchronized, hE⟩
  rw [show entryFrame m args 3 = entryFrame m ([.ref (ad 0)] : List Value).toArray 3 by rw [ha]]
  refine q_entry (A := A) (Nat.le_of_ble_eq_true rfl) hP (lv := [(0, .ref (ad 0))]) rfl ?_
  unfold fX5_countRules at h
  refine q_iconst C (v := 0) dX5_countRules_0 (by decide) ?_
  refine q_istore_n C dX5_countRules_1 rfl (by decide) (lv' := [(0, .ref (ad 0)), (1, .int (0 : Int32))]) rfl ?_
  refine q_iconst C (v := 0) dX5_countRules_2 (by decide) ?_
  refine q_istore_n C dX5_countRules_3 rfl (by decide) (lv' := [(0, .ref (ad 0)), (1, .int (0 : Int32)), (2, .int (0 : Int32))]) rfl ?_
  exact q_sub [0, 1, 2] rfl ((kX5_countRules_L C r0 σ0 100000) (0 : Int32) (0 : Int32) σ h)
abbrev rmX5_count : Room := { frames := 1, cells := 0, slots := 0, locals := 22 }
theorem hyX5_count : yX5_count.cls = RX5 ∧ yX5_count.cls ≠ "java/lang/invoke/MethodHandle" ∧ yX5_count.cls ≠ "java/lang/invoke/VarHandle" ∧ (parseMethodDescriptor yX5_count.desc).map (fun d => d.parameters.length) = some 1 := by decide +kernel
theorem nX5_count_X0 : ∀ w ∈ u_ws RX0 TX0 9, w ∈ wsX5_count := by decide +kernel
theorem nX5_count_X4 : ∀ w ∈ u_ws RX4 TX4 8, w ∈ wsX5_count := by decide +kernel
theorem nX5_count_X5 : ∀ w ∈ u_ws RX5 TX5 10, w ∈ wsX5_count := by decide +kernel
theorem hX5_count_13 : Cond.fieldLink RX5 13 (TX5 1).1 (TX5 1).2.1 (TX5 1).2.2.1 ∈ wsX5_count := by decide +kernel
theorem hX5_count_32 : Cond.fieldLink RX5 32 (TX5 4).1 (TX5 4).2.1 (TX5 4).2.2.1 ∈ wsX5_count := by decide +kernel
theorem hX5_count_129 : Cond.fieldLink RX5 129 (TX0 7).1 (TX0 7).2.1 (TX0 7).2.2.1 ∈ wsX5_count := by decide +kernel
theorem hX5_count_123 : Cond.fieldLink RX5 123 (TX0 6).1 (TX0 6).2.1 (TX0 6).2.2.1 ∈ wsX5_count := by decide +kernel
theorem hX5_count_23 : Cond.fieldLink RX5 23 (TX5 3).1 (TX5 3).2.1 (TX5 3).2.2.1 ∈ wsX5_count := by decide +kernel
theorem hX5_count_87 : Cond.fieldLink RX5 87 (TX4 6).1 (TX4 6).2.1 (TX4 6).2.2.1 ∈ wsX5_count := by decide +kernel
theorem hX5_count_93 : Cond.fieldLink RX5 93 (TX4 7).1 (TX4 7).2.1 (TX4 7).2.2.1 ∈ wsX5_count := by decide +kernel
def fX5_count (σ : St) (a1 : Int32) : Option (Int32 × St) := if a1 = (0 : Int32) then (some ((σ.1 2 7), σ)) else (if a1 = (1 : Int32) then (some ((σ.1 2 6), σ)) else (if a1 = (2 : Int32) then (some ((σ.1 21 6), σ)) else (if a1 = (3 : Int32) then (some ((σ.1 21 7), σ)) else (if a1 = (4 : Int32) then (qcall (fX5_countRules σ) (fun r73 σ73 => some (r73, σ73))) else (if a1 = (5 : Int32) then (some ((σ.1 0 1), σ)) else (some ((-1 : Int32), σ)))))))
set_option maxHeartbeats 4000000 in
set_option maxRecDepth 100000 in
theorem kX5_count (l : Launch) (D : va_G) (ad : Nat → Nat) (cy : Nat → ClassId) (X : va_W) (A : Nat → Prop) (zs : Nat × Nat × Option Nat) (σ : St) (a1 : Int32) (r0 : Int32) (σ0 : St) (h : fX5_count σ a1 = some (r0, σ0)) : Met l yX5_count wsX5_count rmX5_count (qPc ceC 96 ad cy X A D zs [.ref (ad 0), .int a1] σ) (qQi ceC 96 ad cy X A D r0 σ0) 0 0 A := by
  refine Met.ofW (cc := cX5_count) (maxL := 2) (ret := (some .int)) (by decide) rfl ?_
  intro p e s m args below meth c s₁ B hml hv
  obtain ⟨ha, hP, hK, hE, hD⟩ := hv
  have C : qC ceC 96 ad cy X A D zs cX5_count 2 RX5 wsX5_count p s m args meth c (some .int) := ⟨B.exec, B.bytes, hml, findClass_of_methodNamed B.named, atoms_spec (ws := wsX5_count) B.pre, hK, hD, B.returns, B.notSynchronized, hE⟩
  rw [show entryFrame m args 2 = entryFrame m ([.ref (ad 0), .int a1] : List Value).toArray 2 by rw [ha]]
  refine q_entry (A := A) (Nat.le_of_ble_eq_true rfl) hP (lv := [(0, .ref (ad 0)), (1, .int a1)]) rfl ?_
  unfold fX5_count at h
  refine q_iload_n C dX5_count_0 rfl 1 rfl ?_
  refine q_swc h (fun e1_0 h => ?_) (fun n1_0 h => ?_)
  · refine q_tabIn C dX5_count_1 (z := 0) (tgt := 40) (by rw [e1_0]; decide) (by decide) (by decide) rfl (by decide) ?_
    refine q_aload_n C dX5_count_40 rfl 0 rfl ?_
    refine q_get C (Cn := RX5) (T := TX5) (Nf := 10) (ci := 5) (id := 0) (k := 3) (v := .ref (ad 2)) nX5_count_X5 (by decide) (ceC_0 ad cy _ _ _) rfl (by decide) rfl hX5_count_23 dX5_count_41 ?_
    refine q_get C (Cn := RX4) (T := TX4) (Nf := 8) (ci := 4) (id := 2) (k := 7) (v := .int (σ.1 2 7)) nX5_count_X4 (by decide) (ceC_2 ad cy _ _ _) rfl (by decide) rfl hX5_count_93 dX5_count_44 ?_
    exact q_iret C rfl dX5_count_47 h
  refine q_swc h (fun e1_1 h => ?_) (fun n1_1 h => ?_)
  · refine q_tabIn C dX5_count_1 (z := 1) (tgt := 48) (by rw [e1_1]; decide) (by decide) (by decide) rfl (by decide) ?_
    refine q_aload_n C dX5_count_48 rfl 0 rfl ?_
    refine q_get C (Cn := RX5) (T := TX5) (Nf := 10) (ci := 5) (id := 0) (k := 3) (v := .ref (ad 2)) nX5_count_X5 (by decide) (ceC_0 ad cy _ _ _) rfl (by decide) rfl hX5_count_23 dX5_count_49 ?_
    refine q_get C (Cn := RX4) (T := TX4) (Nf := 8) (ci := 4) (id := 2) (k := 6) (v := .int (σ.1 2 6)) nX5_count_X4 (by decide) (ceC_2 ad cy _ _ _) rfl (by decide) rfl hX5_count_87 dX5_count_52 ?_
    exact q_iret C rfl dX5_count_55 h
  refine q_swc h (fun e1_2 h => ?_) (fun n1_2 h => ?_)
  · refine q_tabIn C dX5_count_1 (z := 2) (tgt := 56) (by rw [e1_2]; decide) (by decide) (by decide) rfl (by decide) ?_
    refine q_aload_n C dX5_count_56 rfl 0 rfl ?_
    refine q_get C (Cn := RX5) (T := TX5) (Nf := 10) (ci := 5) (id := 0) (k := 4) (v := .ref (ad 21)) nX5_count_X5 (by decide) (ceC_0 ad cy _ _ _) rfl (by decide) rfl hX5_count_32 dX5_count_57 ?_
    refine q_get C (Cn := RX0) (T := TX0) (Nf := 9) (ci := 0) (id := 21) (k := 6) (v := .int (σ.1 21 6)) nX5_count_X0 (by decide) (ceC_21 ad cy _ _ _) rfl (by decide) rfl hX5_count_123 dX5_count_60 ?_
    exact q_iret C rfl dX5_count_63 h
  refine q_swc h (fun e1_3 h => ?_) (fun n1_3 h => ?_)
  · refine q_tabIn C dX5_count_1 (z := 3) (tgt := 64) (by rw [e1_3]; decide) (by decide) (by decide) rfl (by decide) ?_
    refine q_aload_n C dX5_count_64 rfl 0 rfl ?_
    refine q_get C (Cn := RX5) (T := TX5) (Nf := 10) (ci := 5) (id := 0) (k := 4) (v := .ref (ad 21)) nX5_count_X5 (by decide) (ceC_0 ad cy _ _ _) rfl (by decide) rfl hX5_count_32 dX5_count_65 ?_
    refine q_get C (Cn := RX0) (T := TX0) (Nf := 9) (ci := 0) (id := 21) (k := 7) (v := .int (σ.1 21 7)) nX5_count_X0 (by decide) (ceC_21 ad cy _ _ _) rfl (by decide) rfl hX5_count_129 dX5_count_68 ?_
    exact q_iret C rfl dX5_count_71 h
  refine q_swc h (fun e1_4 h => ?_) (fun n1_4 h => ?_)
  · refine q_tabIn C dX5_count_1 (z := 4) (tgt := 72) (by rw [e1_4]; decide) (by decide) (by decide) rfl (by decide) ?_
    refine q_aload_n C dX5_count_72 rfl 0 rfl ?_
    refine q_callVi C (rm := rmX5_countRules) (As := []) (rest := []) (id := 0) (ci := 5) (fun r9 σ9 h9 => kX5_countRules l D ad cy X A zs σ r9 σ9 h9) gX5_count_X5_countRules rfl rfl rfl hyX5_countRules ⟨Nat.le_of_ble_eq_true rfl, Nat.le_of_ble_eq_true rfl⟩ (by decide) (ceC_0 ad cy _ _ _) rfl rfl rfl (Nat.le_of_ble_eq_true rfl) dX5_count_73 ⟨Nat.zero_le _, Nat.zero_le _⟩ h (fun r73 σ73 h => ?_)
    exact q_iret C rfl dX5_count_76 h
  refine q_swc h (fun e1_5 h => ?_) (fun n1_5 h => ?_)
  · refine q_tabIn C dX5_count_1 (z := 5) (tgt := 77) (by rw [e1_5]; decide) (by decide) (by decide) rfl (by decide) ?_
    refine q_aload_n C dX5_count_77 rfl 0 rfl ?_
    refine q_get C (Cn := RX5) (T := TX5) (Nf := 10) (ci := 5) (id := 0) (k := 1) (v := .int (σ.1 0 1)) nX5_count_X5 (by decide) (ceC_0 ad cy _ _ _) rfl (by decide) rfl hX5_count_13 dX5_count_78 ?_
    exact q_iret C rfl dX5_count_81 h
  have hdf1 : qVi ceC 96 ad cy X A D p l e (headSpec wsX5_count rmX5_count).room s m args below meth c 2 r0 σ0 82 [(0, .ref (ad 0)), (1, .int a1)] [] σ := by
    refine q_iconst C (v := -1) dX5_count_82 (by decide) ?_
    exact q_iret C rfl dX5_count_83 h
  have zn1_0 := q_neI (z := 0) n1_0 (by decide)
  have zn1_1 := q_neI (z := 1) n1_1 (by decide)
  have zn1_2 := q_neI (z := 2) n1_2 (by decide)
  have zn1_3 := q_neI (z := 3) n1_3 (by decide)
  have zn1_4 := q_neI (z := 4) n1_4 (by decide)
  have zn1_5 := q_neI (z := 5) n1_5 (by decide)
  rcases (show (a1).toInt < 0 ∨ 5 < (a1).toInt by omega) with q | q
  · exact q_tabOut C dX5_count_1 (tgt := 82) (Or.inl q) (by decide) hdf1
  · exact q_tabOut C dX5_count_1 (tgt := 82) (Or.inr q) (by decide) hdf1
