abbrev rmX6_isMonth : Room := { frames := 0, cells := 0, slots := 0, locals := 0 }
theorem hyX6_isMonth : yX6_isMonth.cls ≠ "java/lang/invoke/MethodHandle" ∧ yX6_isMonth.cls ≠ "java/lang/invoke/VarHandle" ∧ (parseMethodDescriptor yX6_isMonth.desc).map (fun d => d.parameters.length) = some 1 := by decide +kernel
def fX6_isMonth (σ : St) (a0 : Int32) : Option (Int32 × St) := qlet (fun (y15 : Int32) => (qzz y15 (some (y15, σ)))) (fun j15 => (qlet (fun (y14 : Unit) => (j15 (0 : Int32))) (fun j14 => (if a0 < (0 : Int32) then (j14 ()) else (if (14 : Int32) < a0 then (j14 ()) else (j15 (1 : Int32)))))))
set_option maxHeartbeats 4000000 in
set_option maxRecDepth 100000 in
theorem kX6_isMonth (l : Launch) (D : va_G) (ad : Nat → Nat) (cy : Nat → ClassId) (X : va_W) (A : Nat → Prop) (zs : Nat × Nat × Option Nat) (σ : St) (a0 : Int32) (r0 : Int32) (σ0 : St) (h : fX6_isMonth σ a0 = some (r0, σ0)) : Met l yX6_isMonth wsX6_isMonth rmX6_isMonth (qPc ceM 42 ad cy X A D zs [.int a0] σ) (qQi ceM 42 ad cy X A D r0 σ0) 0 0 A := by
  refine Met.ofW (cc := cX6_isMonth) (maxL := 1) (ret := (some .boolean)) (by decide) rfl ?_
  intro p e s m args below meth c s₁ B hml hv
  obtain ⟨ha, hP, hK, hE, hD⟩ := hv
  have C : qC ceM 42 ad cy X A D zs cX6_isMonth 1 RX6 wsX6_isMonth p s m args meth c (some .boolean) := ⟨B.exec, B.bytes, hml, findClass_of_methodNamed B.named, atoms_spec (ws := wsX6_isMonth) B.pre, hK, hD, B.returns, B.notSynchronized, hE⟩
  rw [show entryFrame m args 1 = entryFrame m ([.int a0] : List Value).toArray 1 by rw [ha]]
  refine q_entry (A := A) (Nat.le_of_ble_eq_true rfl) hP (lv := [(0, .int a0)]) rfl ?_
  unfold fX6_isMonth at h
  refine q_iload_n C dX6_isMonth_0 rfl 0 rfl ?_
  refine q_join (G := fun (y15 : Int32) => qVi ceM 42 ad cy X A D p l e (headSpec wsX6_isMonth rmX6_isMonth).room s m args below meth c 1 r0 σ0 15 [] [.int y15] σ) h (fun y15 h => ?_) (fun j15 hj15 h => ?_)
  · exact q_zret C rfl dX6_isMonth_15 h
  refine q_join (G := fun (y14 : Unit) => qVi ceM 42 ad cy X A D p l e (headSpec wsX6_isMonth rmX6_isMonth).room s m args below meth c 1 r0 σ0 14 [] [] σ) h (fun y14 h => ?_) (fun j14 hj14 h => ?_)
  · refine q_iconst C (v := 0) dX6_isMonth_14 (by decide) ?_
    exact q_sub [] rfl (hj15 (0 : Int32) h)
  refine q_if_lt C (tgt := 14) dX6_isMonth_1 (by decide) h (fun h => ?_) (fun h => ?_)
  · exact q_sub [] rfl (hj14 () h)
  · refine q_iload_n C dX6_isMonth_4 rfl 0 rfl ?_
    refine q_bipush C (v := 14) dX6_isMonth_5 (by decide) ?_
    refine q_icmp_gt C (tgt := 14) dX6_isMonth_7 (by decide) h (fun h => ?_) (fun h => ?_)
    · exact q_sub [] rfl (hj14 () h)
    · refine q_iconst C (v := 1) dX6_isMonth_10 (by decide) ?_
      refine q_goto C (tgt := 15) dX6_isMonth_11 (by decide) ?_
      exact q_sub [] rfl (hj15 (1 : Int32) h)
abbrev rmX6_beginOf : Room := { frames := 0, cells := 0, slots := 0, locals := 0 }
theorem hyX6_beginOf : yX6_beginOf.cls = RX6 ∧ yX6_beginOf.cls ≠ "java/lang/invoke/MethodHandle" ∧ yX6_beginOf.cls ≠ "java/lang/invoke/VarHandle" ∧ (parseMethodDescriptor yX6_beginOf.desc).map (fun d => d.parameters.length) = some 2 := by decide +kernel
theorem nX6_beginOf_X6 : ∀ w ∈ u_ws RX6 TX6 60, w ∈ wsX6_beginOf := by decide +kernel
theorem hX6_beginOf_116 : Cond.fieldLink RX6 116 (TX6 50).1 (TX6 50).2.1 (TX6 50).2.2.1 ∈ wsX6_beginOf := by decide +kernel
theorem hX6_beginOf_119 : Cond.fieldLink RX6 119 (TX6 51).1 (TX6 51).2.1 (TX6 51).2.2.1 ∈ wsX6_beginOf := by decide +kernel
def fX6_beginOf (σ : St) (a1 : Int32) (a2 : Int32) : Option (Int32 × St) := qix a1 6 (qlet (fun (y25 : Int32) => (some (y25, σ))) (fun j25 => (if (σ.1 32 a1.toNatClampNeg) ≤ a2 then (j25 (-1 : Int32)) else (qix (((16 : Int32) * a1) + a2) 96 (j25 (σ.1 33 (((16 : Int32) * a1) + a2).toNatClampNeg))))))
set_option maxHeartbeats 4000000 in
set_option maxRecDepth 100000 in
theorem kX6_beginOf (l : Launch) (D : va_G) (ad : Nat → Nat) (cy : Nat → ClassId) (X : va_W) (A : Nat → Prop) (zs : Nat × Nat × Option Nat) (σ : St) (a1 : Int32) (a2 : Int32) (r0 : Int32) (σ0 : St) (h : fX6_beginOf σ a1 a2 = some (r0, σ0)) : Met l yX6_beginOf wsX6_beginOf rmX6_beginOf (qPc ceM 42 ad cy X A D zs [.ref (ad 0), .int a1, .int a2] σ) (qQi ceM 42 ad cy X A D r0 σ0) 0 0 A := by
  refine Met.ofW (cc := cX6_beginOf) (maxL := 3) (ret := (some .int)) (by decide) rfl ?_
  intro p e s m args below meth c s₁ B hml hv
  obtain ⟨ha, hP, hK, hE, hD⟩ := hv
  have C : qC ceM 42 ad cy X A D zs cX6_beginOf 3 RX6 wsX6_beginOf p s m args meth c (some .int) := ⟨B.exec, B.bytes, hml, findClass_of_methodNamed B.named, atoms_spec (ws := wsX6_beginOf) B.pre, hK, hD, B.returns, B.notSynchronized, hE⟩
  rw [show entryFrame m args 3 = entryFrame m ([.ref (ad 0), .int a1, .int a2] : List Value).toArray 3 by rw [ha]]
  refine q_entry (A := A) (Nat.le_of_ble_eq_true rfl) hP (lv := [(0, .ref (ad 0)), (1, .int a1), (2, .int a2)]) rfl ?_
  unfold fX6_beginOf at h
  refine q_iload_n C dX6_beginOf_0 rfl 2 rfl ?_
  refine q_aload_n C dX6_beginOf_1 rfl 0 rfl ?_
  refine q_get C (Cn := RX6) (T := TX6) (Nf := 60) (ci := 6) (id := 0) (k := 50) (v := .ref (ad 32)) nX6_beginOf_X6 (by decide) (ceM_0 ad cy _ _ _) rfl (by decide) rfl hX6_beginOf_116 dX6_beginOf_2 ?_
  refine q_iload_n C dX6_beginOf_5 rfl 1 rfl ?_
  refine q_iald C (id := 32) (by decide) (ceM_32 ad cy _ _ _) dX6_beginOf_6 h (fun h => ?_)
  refine q_join (G := fun (y25 : Int32) => qVi ceM 42 ad cy X A D p l e (headSpec wsX6_beginOf rmX6_beginOf).room s m args below meth c 3 r0 σ0 25 [] [.int y25] σ) h (fun y25 h => ?_) (fun j25 hj25 h => ?_)
  · exact q_iret C rfl dX6_beginOf_25 h
  refine q_icmp_ge C (tgt := 24) dX6_beginOf_7 (by decide) h (fun h => ?_) (fun h => ?_)
  · refine q_iconst C (v := -1) dX6_beginOf_24 (by decide) ?_
    exact q_sub [] rfl (hj25 (-1 : Int32) h)
  · refine q_aload_n C dX6_beginOf_10 rfl 0 rfl ?_
    refine q_get C (Cn := RX6) (T := TX6) (Nf := 60) (ci := 6) (id := 0) (k := 51) (v := .ref (ad 33)) nX6_beginOf_X6 (by decide) (ceM_0 ad cy _ _ _) rfl (by decide) rfl hX6_beginOf_119 dX6_beginOf_11 ?_
    refine q_bipush C (v := 16) dX6_beginOf_14 (by decide) ?_
    refine q_iload_n C dX6_beginOf_16 rfl 1 rfl ?_
    refine q_imul C dX6_beginOf_17 ?_
    refine q_iload_n C dX6_beginOf_18 rfl 2 rfl ?_
    refine q_iadd C dX6_beginOf_19 ?_
    refine q_iald C (id := 33) (by decide) (ceM_33 ad cy _ _ _) dX6_beginOf_20 h (fun h => ?_)
    refine q_goto C (tgt := 25) dX6_beginOf_21 (by decide) ?_
    exact q_sub [] rfl (hj25 (σ.1 33 (((16 : Int32) * a1) + a2).toNatClampNeg) h)
abbrev rmX6_begins : Room := { frames := 7, cells := 0, slots := 0, locals := 177 }
theorem hyX6_begins : yX6_begins.cls = RX6 ∧ yX6_begins.cls ≠ "java/lang/invoke/MethodHandle" ∧ yX6_begins.cls ≠ "java/lang/invoke/VarHandle" ∧ (parseMethodDescriptor yX6_begins.desc).map (fun d => d.parameters.length) = some 3 := by decide +kernel
def fX6_begins (σ : St) (a1 : Int32) (a2 : Int32) (a3 : Int32) : Option (Int32 × St) := qcall (fX6_isLand σ a1) (fun r2 σ2 => qlet (fun (y23 : St) => (some ((-1 : Int32), y23))) (fun j23 => (if r2 = (0 : Int32) then (j23 σ2) else (qcall (fX6_isMonth σ2 a2) (fun r9 σ9 => if r9 = (0 : Int32) then (j23 σ9) else (qcall (fX6_isKnown σ9 a3) (fun r17 σ17 => if r17 = (0 : Int32) then (j23 σ17) else (qcall (fX6_goes σ17 a3) (fun _ σ27 => qcall (fX6_beginOf σ27 a1 a2) (fun r33 σ33 => some (r33, σ33)))))))))))
set_option maxHeartbeats 4000000 in
set_option maxRecDepth 100000 in
theorem kX6_begins (l : Launch) (D : va_G) (ad : Nat → Nat) (cy : Nat → ClassId) (X : va_W) (A : Nat → Prop) (zs : Nat × Nat × Option Nat) (σ : St) (a1 : Int32) (a2 : Int32) (a3 : Int32) (r0 : Int32) (σ0 : St) (h : fX6_begins σ a1 a2 a3 = some (r0, σ0)) : Met l yX6_begins wsX6_begins rmX6_begins (qPc ceM 42 ad cy X A D zs [.ref (ad 0), .int a1, .int a2, .int a3] σ) (qQi ceM 42 ad cy X A D r0 σ0) 0 0 A := by
  refine Met.ofW (cc := cX6_begins) (maxL := 4) (ret := (some .int)) (by decide) rfl ?_
  intro p e s m args below meth c s₁ B hml hv
  obtain ⟨ha, hP, hK, hE, hD⟩ := hv
  have C : qC ceM 42 ad cy X A D zs cX6_begins 4 RX6 wsX6_begins p s m args meth c (some .int) := ⟨B.exec, B.bytes, hml, findClass_of_methodNamed B.named, atoms_spec (ws := wsX6_begins) B.pre, hK, hD, B.returns, B.notSynchronized, hE⟩
  rw [show entryFrame m args 4 = entryFrame m ([.ref (ad 0), .int a1, .int a2, .int a3] : List Value).toArray 4 by rw [ha]]
  refine q_entry (A := A) (Nat.le_of_ble_eq_true rfl) hP (lv := [(0, .ref (ad 0)), (1, .int a1), (2, .int a2), (3, .int a3)]) rfl ?_
  unfold fX6_begins at h
  refine q_aload_n C dX6_begins_0 rfl 0 rfl ?_
  refine q_iload_n C dX6_begins_1 rfl 1 rfl ?_
  refine q_callVi C (rm := rmX6_isLand) (As := [.int a1]) (rest := []) (id := 0) (ci := 6) (fun r9 σ9 h9 => kX6_isLand l D ad cy X A zs σ a1 r9 σ9 h9) gX6_begins_X6_isLand rfl rfl rfl hyX6_isLand ⟨Nat.le_of_ble_eq_true rfl, Nat.le_of_ble_eq_true rfl⟩ (by decide) (ceM_0 ad cy _ _ _) rfl rfl rfl (Nat.le_of_ble_eq_true rfl) dX6_begins_2 ⟨Nat.zero_le _, Nat.zero_le _⟩ h (fun r2 σ2 h => ?_)
  refine q_join (G := fun (y23 : St) => qVi ceM 42 ad cy X A D p l e (headSpec wsX6_begins rmX6_begins).room s m args below meth c 4 r0 σ0 23 [] [] y23) h (fun y23 h => ?_) (fun j23 hj23 h => ?_)
  · refine q_iconst C (v := -1) dX6_begins_23 (by decide) ?_
    exact q_iret C rfl dX6_begins_24 h
  refine q_if_eq C (tgt := 23) dX6_begins_5 (by decide) h (fun h => ?_) (fun h => ?_)
  · exact q_sub [] rfl (hj23 σ2 h)
  · refine q_iload_n C dX6_begins_8 rfl 2 rfl ?_
    refine q_callSi C (rm := rmX6_isMonth) (As := [.int a2]) (rest := []) (fun r9 σ9 h9 => kX6_isMonth l D ad cy X A zs σ2 a2 r9 σ9 h9) gX6_begins_X6_isMonth rfl rfl rfl hyX6_isMonth ⟨Nat.le_of_ble_eq_true rfl, Nat.le_of_ble_eq_true rfl⟩ rfl rfl (Nat.le_of_ble_eq_true rfl) dX6_begins_9 ⟨Nat.zero_le _, Nat.zero_le _⟩ h (fun r9 σ9 h => ?_)
    refine q_if_eq C (tgt := 23) dX6_begins_12 (by decide) h (fun h => ?_) (fun h => ?_)
    · exact q_sub [] rfl (hj23 σ9 h)
    · refine q_aload_n C dX6_begins_15 rfl 0 rfl ?_
      refine q_iload_n C dX6_begins_16 rfl 3 rfl ?_
      refine q_callVi C (rm := rmX6_isKnown) (As := [.int a3]) (rest := []) (id := 0) (ci := 6) (fun rZ σZ hZ => kX6_isKnown l D ad cy X A zs σ9 a3 rZ σZ hZ) gX6_begins_X6_isKnown rfl rfl rfl hyX6_isKnown ⟨Nat.le_of_ble_eq_true rfl, Nat.le_of_ble_eq_true rfl⟩ (by decide) (ceM_0 ad cy _ _ _) rfl rfl rfl (Nat.le_of_ble_eq_true rfl) dX6_begins_17 ⟨Nat.zero_le _, Nat.zero_le _⟩ h (fun r17 σ17 h => ?_)
      refine q_if_ne C (tgt := 25) dX6_begins_20 (by decide) h (fun h => ?_) (fun h => ?_)
      · refine q_aload_n C dX6_begins_25 rfl 0 rfl ?_
        refine q_iload_n C dX6_begins_26 rfl 3 rfl ?_
        refine q_callVv C (rm := rmX6_goes) (As := [.int a3]) (rest := []) (id := 0) (ci := 6) (fun r9 σ9 h9 => kX6_goes l D ad cy X A zs σ17 a3 r9 σ9 h9) gX6_begins_X6_goes rfl rfl rfl hyX6_goes ⟨Nat.le_of_ble_eq_true rfl, Nat.le_of_ble_eq_true rfl⟩ (by decide) (ceM_0 ad cy _ _ _) rfl rfl rfl (Nat.le_of_ble_eq_true rfl) dX6_begins_27 ⟨Nat.zero_le _, Nat.zero_le _⟩ h (fun r27 σ27 h => ?_)
        refine q_aload_n C dX6_begins_30 rfl 0 rfl ?_
        refine q_iload_n C dX6_begins_31 rfl 1 rfl ?_
        refine q_iload_n C dX6_begins_32 rfl 2 rfl ?_
        refine q_callVi C (rm := rmX6_beginOf) (As := [.int a1, .int a2]) (rest := []) (id := 0) (ci := 6) (fun r9 σ9 h9 => kX6_beginOf l D ad cy X A zs σ27 a1 a2 r9 σ9 h9) gX6_begins_X6_beginOf rfl rfl rfl hyX6_beginOf ⟨Nat.le_of_ble_eq_true rfl, Nat.le_of_ble_eq_true rfl⟩ (by decide) (ceM_0 ad cy _ _ _) rfl rfl rfl (Nat.le_of_ble_eq_true rfl) dX6_begins_33 ⟨Nat.zero_le _, Nat.zero_le _⟩ h (fun r33 σ33 h => ?_)
        exact q_iret C rfl dX6_begins_36 h
      · exact q_sub [] rfl (hj23 σ17 h)
abbrev rmX6_by : Room := { frames := 7, cells := 0, slots := 0, locals := 177 }
theorem hyX6_by : yX6_by.cls = RX6 ∧ yX6_by.cls ≠ "java/lang/invoke/MethodHandle" ∧ yX6_by.cls ≠ "java/lang/invoke/VarHandle" ∧ (parseMethodDescriptor yX6_by.desc).map (fun d => d.parameters.length) = some 3 := by decide +kernel
theorem nX6_by_X6 : ∀ w ∈ u_ws RX6 TX6 60, w ∈ wsX6_by := fun w h => List.mem_cons_of_mem _ (List.mem_append_right _ h)
theorem hX6_by_116 : Cond.fieldLink RX6 116 (TX6 50).1 (TX6 50).2.1 (TX6 50).2.2.1 ∈ wsX6_by := by decide +kernel
theorem hX6_by_122 : Cond.fieldLink RX6 122 (TX6 52).1 (TX6 52).2.1 (TX6 52).2.2.1 ∈ wsX6_by := by decide +kernel
def fX6_by (σ : St) (a1 : Int32) (a2 : Int32) (a3 : Int32) : Option (Int32 × St) := qcall (fX6_isLand σ a1) (fun r2 σ2 => qlet (fun (y27 : St) => (some ((-1 : Int32), y27))) (fun j27 => (if r2 = (0 : Int32) then (j27 σ2) else (qcall (fX6_isMonth σ2 a2) (fun r9 σ9 => if r9 = (0 : Int32) then (j27 σ9) else (if a2 = (0 : Int32) then (j27 σ9) else (qcall (fX6_isKnown σ9 a3) (fun r21 σ21 => if r21 = (0 : Int32) then (j27 σ21) else (qcall (fX6_goes σ21 a3) (fun _ σ31 => qix a1 6 (qlet (fun (y59 : Int32) => (some (y59, σ31))) (fun j59 => (if (σ31.1 32 a1.toNatClampNeg) ≤ a2 then (j59 (-1 : Int32)) else (qix (((16 : Int32) * a1) + a2) 96 (j59 (σ31.1 34 (((16 : Int32) * a1) + a2).toNatClampNeg))))))))))))))))
set_option maxHeartbeats 4000000 in
set_option maxRecDepth 100000 in
theorem kX6_by (l : Launch) (D : va_G) (ad : Nat → Nat) (cy : Nat → ClassId) (X : va_W) (A : Nat → Prop) (zs : Nat × Nat × Option Nat) (σ : St) (a1 : Int32) (a2 : Int32) (a3 : Int32) (r0 : Int32) (σ0 : St) (h : fX6_by σ a1 a2 a3 = some (r0, σ0)) : Met l yX6_by wsX6_by rmX6_by (qPc ceM 42 ad cy X A D zs [.ref (ad 0), .int a1, .int a2, .int a3] σ) (qQi ceM 42 ad cy X A D r0 σ0) 0 0 A := by
  refine Met.ofW (cc := cX6_by) (maxL := 4) (ret := (some .int)) (by decide) rfl ?_
  intro p e s m args below meth c s₁ B hml hv
  obtain ⟨ha, hP, hK, hE, hD⟩ := hv
  have C : qC ceM 42 ad cy X A D zs cX6_by 4 RX6 wsX6_by p s m args meth c (some .int) := ⟨B.exec, B.bytes, hml, findClass_of_methodNamed B.named, atoms_spec (ws := wsX6_by) B.pre, hK, hD, B.returns, B.notSynchronized, hE⟩
  rw [show entryFrame m args 4 = entryFrame m ([.ref (ad 0), .int a1, .int a2, .int a3] : List Value).toArray 4 by rw [ha]]
  refine q_entry (A := A) (Nat.le_of_ble_eq_true rfl) hP (lv := [(0, .ref (ad 0)), (1, .int a1), (2, .int a2), (3, .int a3)]) rfl ?_
  unfold fX6_by at h
  refine q_aload_n C dX6_by_0 rfl 0 rfl ?_
  refine q_iload_n C dX6_by_1 rfl 1 rfl ?_
  refine q_callVi C (rm := rmX6_isLand) (As := [.int a1]) (rest := []) (id := 0) (ci := 6) (fun r9 σ9 h9 => kX6_isLand l D ad cy X A zs σ a1 r9 σ9 h9) gX6_by_X6_isLand rfl rfl rfl hyX6_isLand ⟨Nat.le_of_ble_eq_true rfl, Nat.le_of_ble_eq_true rfl⟩ (by decide) (ceM_0 ad cy _ _ _) rfl rfl rfl (Nat.le_of_ble_eq_true rfl) dX6_by_2 ⟨Nat.zero_le _, Nat.zero_le _⟩ h (fun r2 σ2 h => ?_)
  refine q_join (G := fun (y27 : St) => qVi ceM 42 ad cy X A D p l e (headSpec wsX6_by rmX6_by).room s m args below meth c 4 r0 σ0 27 [] [] y27) h (fun y27 h => ?_) (fun j27 hj27 h => ?_)
  · refine q_iconst C (v := -1) dX6_by_27 (by decide) ?_
    exact q_iret C rfl dX6_by_28 h
  refine q_if_eq C (tgt := 27) dX6_by_5 (by decide) h (fun h => ?_) (fun h => ?_)
  · exact q_sub [] rfl (hj27 σ2 h)
  · refine q_iload_n C dX6_by_8 rfl 2 rfl ?_
    refine q_callSi C (rm := rmX6_isMonth) (As := [.int a2]) (rest := []) (fun r9 σ9 h9 => kX6_isMonth l D ad cy X A zs σ2 a2 r9 σ9 h9) gX6_by_X6_isMonth rfl rfl rfl hyX6_isMonth ⟨Nat.le_of_ble_eq_true rfl, Nat.le_of_ble_eq_true rfl⟩ rfl rfl (Nat.le_of_ble_eq_true rfl) dX6_by_9 ⟨Nat.zero_le _, Nat.zero_le _⟩ h (fun r9 σ9 h => ?_)
    refine q_if_eq C (tgt := 27) dX6_by_12 (by decide) h (fun h => ?_) (fun h => ?_)
    · exact q_sub [] rfl (hj27 σ9 h)
    · refine q_iload_n C dX6_by_15 rfl 2 rfl ?_
      refine q_if_eq C (tgt := 27) dX6_by_16 (by decide) h (fun h => ?_) (fun h => ?_)
      · exact q_sub [] rfl (hj27 σ9 h)
      · refine q_aload_n C dX6_by_19 rfl 0 rfl ?_
        refine q_iload_n C dX6_by_20 rfl 3 rfl ?_
        refine q_callVi C (rm := rmX6_isKnown) (As := [.int a3]) (rest := []) (id := 0) (ci := 6) (fun rZ σZ hZ => kX6_isKnown l D ad cy X A zs σ9 a3 rZ σZ hZ) gX6_by_X6_isKnown rfl rfl rfl hyX6_isKnown ⟨Nat.le_of_ble_eq_true rfl, Nat.le_of_ble_eq_true rfl⟩ (by decide) (ceM_0 ad cy _ _ _) rfl rfl rfl (Nat.le_of_ble_eq_true rfl) dX6_by_21 ⟨Nat.zero_le _, Nat.zero_le _⟩ h (fun r21 σ21 h => ?_)
        refine q_if_ne C (tgt := 29) dX6_by_24 (by decide) h (fun h => ?_) (fun h => ?_)
        · refine q_aload_n C dX6_by_29 rfl 0 rfl ?_
          refine q_iload_n C dX6_by_30 rfl 3 rfl ?_
          refine q_callVv C (rm := rmX6_goes) (As := [.int a3]) (rest := []) (id := 0) (ci := 6) (fun r9 σ9 h9 => kX6_goes l D ad cy X A zs σ21 a3 r9 σ9 h9) gX6_by_X6_goes rfl rfl rfl hyX6_goes ⟨Nat.le_of_ble_eq_true rfl, Nat.le_of_ble_eq_true rfl⟩ (by decide) (ceM_0 ad cy _ _ _) rfl rfl rfl (Nat.le_of_ble_eq_true rfl) dX6_by_31 ⟨Nat.zero_le _, Nat.zero_le _⟩ h (fun r31 σ31 h => ?_)
          refine q_iload_n C dX6_by_34 rfl 2 rfl ?_
          refine q_aload_n C dX6_by_35 rfl 0 rfl ?_
          refine q_get C (Cn := RX6) (T := TX6) (Nf := 60) (ci := 6) (id := 0) (k := 50) (v := .ref (ad 32)) nX6_by_X6 (by decide) (ceM_0 ad cy _ _ _) rfl (by decide) rfl hX6_by_116 dX6_by_36 ?_
          refine q_iload_n C dX6_by_39 rfl 1 rfl ?_
          refine q_iald C (id := 32) (by decide) (ceM_32 ad cy _ _ _) dX6_by_40 h (fun h => ?_)
          refine q_join (G := fun (y59 : Int32) => qVi ceM 42 ad cy X A D p l e (headSpec wsX6_by rmX6_by).room s m args below meth c 4 r0 σ0 59 [] [.int y59] σ31) h (fun y59 h => ?_) (fun j59 hj59 h => ?_)
          · exact q_iret C rfl dX6_by_59 h
          refine q_icmp_ge C (tgt := 58) dX6_by_41 (by decide) h (fun h => ?_) (fun h => ?_)
          · refine q_iconst C (v := -1) dX6_by_58 (by decide) ?_
            exact q_sub [] rfl (hj59 (-1 : Int32) h)
          · refine q_aload_n C dX6_by_44 rfl 0 rfl ?_
            refine q_get C (Cn := RX6) (T := TX6) (Nf := 60) (ci := 6) (id := 0) (k := 52) (v := .ref (ad 34)) nX6_by_X6 (by decide) (ceM_0 ad cy _ _ _) rfl (by decide) rfl hX6_by_122 dX6_by_45 ?_
            refine q_bipush C (v := 16) dX6_by_48 (by decide) ?_
            refine q_iload_n C dX6_by_50 rfl 1 rfl ?_
            refine q_imul C dX6_by_51 ?_
            refine q_iload_n C dX6_by_52 rfl 2 rfl ?_
            refine q_iadd C dX6_by_53 ?_
            refine q_iald C (id := 34) (by decide) (ceM_34 ad cy _ _ _) dX6_by_54 h (fun h => ?_)
            refine q_goto C (tgt := 59) dX6_by_55 (by decide) ?_
            exact q_sub [] rfl (hj59 (σ31.1 34 (((16 : Int32) * a1) + a2).toNatClampNeg) h)
        · exact q_sub [] rfl (hj27 σ21 h)
abbrev rmX6_heard : Room := { frames := 7, cells := 0, slots := 0, locals := 177 }
theorem hyX6_heard : yX6_heard.cls = RX6 ∧ yX6_heard.cls ≠ "java/lang/invoke/MethodHandle" ∧ yX6_heard.cls ≠ "java/lang/invoke/VarHandle" ∧ (parseMethodDescriptor yX6_heard.desc).map (fun d => d.parameters.length) = some 4 := by decide +kernel
theorem nX6_heard_X6 : ∀ w ∈ u_ws RX6 TX6 60, w ∈ wsX6_heard := fun w h => List.mem_cons_of_mem _ (List.mem_append_right _ h)
theorem hX6_heard_116 : Cond.fieldLink RX6 116 (TX6 50).1 (TX6 50).2.1 (TX6 50).2.2.1 ∈ wsX6_heard := by decide +kernel
theorem hX6_heard_125 : Cond.fieldLink RX6 125 (TX6 53).1 (TX6 53).2.1 (TX6 53).2.2.1 ∈ wsX6_heard := by decide +kernel
theorem hX6_heard_128 : Cond.fieldLink RX6 128 (TX6 54).1 (TX6 54).2.1 (TX6 54).2.2.1 ∈ wsX6_heard := by decide +kernel
def fX6_heard_L (a1 : Int32) (a2 : Int32) (a3 : Int32) (a4 : Int32) : Nat → Int32 → Int32 → St → Option (Int32 × St)
  | 0, _, _, _ => none
  | n + 1, v5, v6, σ => if a4 ≤ v6 then (some ((-1 : Int32), σ)) else (qix (((16 : Int32) * a1) + a2) 96 (qix (((16 : Int32) * a1) + a2) 96 (qcall (fX6_isHeard σ v6 a1 (σ.1 35 (((16 : Int32) * a1) + a2).toNatClampNeg) (σ.1 36 (((16 : Int32) * a1) + a2).toNatClampNeg) a4) (fun r93 σ93 => qlet (fun (y113 : Int32) => (qlet (v6 + (1 : Int32)) (fun x113 => fX6_heard_L a1 a2 a3 a4 n y113 x113 σ93))) (fun j113 => (if r93 = (0 : Int32) then (j113 v5) else (if v5 = (0 : Int32) then (some (v6, σ93)) else (qlet (v5 + (-1 : Int32)) (fun x110 => j113 x110)))))))))
def fX6_heard (σ : St) (a1 : Int32) (a2 : Int32) (a3 : Int32) (a4 : Int32) : Option (Int32 × St) := qcall (fX6_isLand σ a1) (fun r2 σ2 => qlet (fun (y32 : St) => (some ((-1 : Int32), y32))) (fun j32 => (if r2 = (0 : Int32) then (j32 σ2) else (qcall (fX6_isMonth σ2 a2) (fun r9 σ9 => if r9 = (0 : Int32) then (j32 σ9) else (if a2 = (0 : Int32) then (j32 σ9) else (if a3 < (0 : Int32) then (j32 σ9) else (qcall (fX6_isKnown σ9 a4) (fun r26 σ26 => if r26 = (0 : Int32) then (j32 σ26) else (qcall (fX6_goes σ26 a4) (fun _ σ37 => qix a1 6 (if a2 < (σ37.1 32 a1.toNatClampNeg) then (fX6_heard_L a1 a2 a3 a4 100000 a3 (0 : Int32) σ37) else (some ((-1 : Int32), σ37))))))))))))))
set_option maxHeartbeats 4000000 in
set_option maxRecDepth 100000 in
theorem kX6_heard_L {ad : Nat → Nat} {cy : Nat → ClassId} {X : va_W} {A : Nat → Prop} {D : va_G} {zs : Nat × Nat × Option Nat} {p : Program} {l : Launch} {e : Env} {s : State} {m : MethodId} {args : Array Value} {below : List Frame} {meth : Method} {c : Code} {a1 : Int32} {a2 : Int32} {a3 : Int32} {a4 : Int32} (C : qC ceM 42 ad cy X A D zs cX6_heard 7 RX6 wsX6_heard p s m args meth c (some .int)) (r0 : Int32) (σ0 : St) (n : Nat) : (∀ (v5 : Int32) (v6 : Int32) (σ : St), fX6_heard_L a1 a2 a3 a4 n v5 v6 σ = some (r0, σ0) → qVi ceM 42 ad cy X A D p l e (headSpec wsX6_heard rmX6_heard).room s m args below meth c 7 r0 σ0 58 [(0, .ref (ad 0)), (1, .int a1), (2, .int a2), (4, .int a4), (5, .int v5), (6, .int v6)] [] σ) := by
  induction n with
  | zero =>
    intro v5 v6 σ h; cases h
  | succ n ih =>
    intro v5 v6 σ h
    rw [fX6_heard_L] at h
    refine q_iload C dX6_heard_58 5 rfl ?_
    refine q_iload C dX6_heard_60 3 rfl ?_
    refine q_icmp_ge C (tgt := 119) dX6_heard_62 (by decide) h (fun h => ?_) (fun h => ?_)
    · refine q_iconst C (v := -1) dX6_heard_119 (by decide) ?_
      exact q_iret C rfl dX6_heard_120 h
    · refine q_aload_n C dX6_heard_65 rfl 0 rfl ?_
      refine q_iload C dX6_heard_66 5 rfl ?_
      refine q_iload_n C dX6_heard_68 rfl 1 rfl ?_
      refine q_aload_n C dX6_heard_69 rfl 0 rfl ?_
      refine q_get C (Cn := RX6) (T := TX6) (Nf := 60) (ci := 6) (id := 0) (k := 53) (v := .ref (ad 35)) nX6_heard_X6 (by decide) (ceM_0 ad cy _ _ _) rfl (by decide) rfl hX6_heard_125 dX6_heard_70 ?_
      refine q_bipush C (v := 16) dX6_heard_73 (by decide) ?_
      refine q_iload_n C dX6_heard_75 rfl 1 rfl ?_
      refine q_imul C dX6_heard_76 ?_
      refine q_iload_n C dX6_heard_77 rfl 2 rfl ?_
      refine q_iadd C dX6_heard_78 ?_
      refine q_iald C (id := 35) (by decide) (ceM_35 ad cy _ _ _) dX6_heard_79 h (fun h => ?_)
      refine q_aload_n C dX6_heard_80 rfl 0 rfl ?_
      refine q_get C (Cn := RX6) (T := TX6) (Nf := 60) (ci := 6) (id := 0) (k := 54) (v := .ref (ad 36)) nX6_heard_X6 (by decide) (ceM_0 ad cy _ _ _) rfl (by decide) rfl hX6_heard_128 dX6_heard_81 ?_
      refine q_bipush C (v := 16) dX6_heard_84 (by decide) ?_
      refine q_iload_n C dX6_heard_86 rfl 1 rfl ?_
      refine q_imul C dX6_heard_87 ?_
      refine q_iload_n C dX6_heard_88 rfl 2 rfl ?_
      refine q_iadd C dX6_heard_89 ?_
      refine q_iald C (id := 36) (by decide) (ceM_36 ad cy _ _ _) dX6_heard_90 h (fun h => ?_)
      refine q_iload C dX6_heard_91 3 rfl ?_
      refine q_callVi C (rm := rmX6_isHeard) (As := [.int v6, .int a1, .int (σ.1 35 (((16 : Int32) * a1) + a2).toNatClampNeg), .int (σ.1 36 (((16 : Int32) * a1) + a2).toNatClampNeg), .int a4]) (rest := []) (id := 0) (ci := 6) (fun r9 σ9 h9 => kX6_isHeard l D ad cy X A zs σ v6 a1 (σ.1 35 (((16 : Int32) * a1) + a2).toNatClampNeg) (σ.1 36 (((16 : Int32) * a1) + a2).toNatClampNeg) a4 r9 σ9 h9) gX6_heard_X6_isHeard rfl rfl rfl hyX6_isHeard ⟨Nat.le_of_ble_eq_true rfl, Nat.le_of_ble_eq_true rfl⟩ (by decide) (ceM_0 ad cy _ _ _) rfl rfl rfl (Nat.le_of_ble_eq_true rfl) dX6_heard_93 ⟨Nat.zero_le _, Nat.zero_le _⟩ h (fun r93 σ93 h => ?_)
      refine q_join (G := fun (y113 : Int32) => qVi ceM 42 ad cy X A D p l e (headSpec wsX6_heard rmX6_heard).room s m args below meth c 7 r0 σ0 113 [(0, .ref (ad 0)), (1, .int a1), (2, .int a2), (4, .int a4), (5, .int y113), (6, .int v6)] [] σ93) h (fun y113 h => ?_) (fun j113 hj113 h => ?_)
      · refine q_iincL C dX6_heard_113 5 rfl (by decide) (nv := 1) (by decide) h (lw := fun x113 => [(0, .ref (ad 0)), (1, .int a1), (2, .int a2), (4, .int a4), (5, .int y113), (6, .int x113)]) (fun _ => rfl) (fun x113 h => ?_)
        refine q_goto C (tgt := 58) dX6_heard_116 (by decide) ?_
        exact q_sub [0, 1, 2, 3, 4, 5] rfl (ih y113 x113 σ93 h)
      refine q_if_ne C (tgt := 102) dX6_heard_96 (by decide) h (fun h => ?_) (fun h => ?_)
      · refine q_iload C dX6_heard_102 4 rfl ?_
        refine q_if_ne C (tgt := 110) dX6_heard_104 (by decide) h (fun h => ?_) (fun h => ?_)
        · refine q_iincL C dX6_heard_110 4 rfl (by decide) (nv := -1) (by decide) h (lw := fun x110 => [(0, .ref (ad 0)), (1, .int a1), (2, .int a2), (4, .int a4), (5, .int x110), (6, .int v6)]) (fun _ => rfl) (fun x110 h => ?_)
          exact q_sub [0, 1, 2, 3, 4, 5] rfl (hj113 x110 h)
        · refine q_iload C dX6_heard_107 5 rfl ?_
          exact q_iret C rfl dX6_heard_109 h
      · refine q_goto C (tgt := 113) dX6_heard_99 (by decide) ?_
        exact q_sub [0, 1, 2, 3, 4, 5] rfl (hj113 v5 h)
set_option maxHeartbeats 4000000 in
set_option maxRecDepth 100000 in
theorem kX6_heard (l : Launch) (D : va_G) (ad : Nat → Nat) (cy : Nat → ClassId) (X : va_W) (A : Nat → Prop) (zs : Nat × Nat × Option Nat) (σ : St) (a1 : Int32) (a2 : Int32) (a3 : Int32) (a4 : Int32) (r0 : Int32) (σ0 : St) (h : fX6_heard σ a1 a2 a3 a4 = some (r0, σ0)) : Met l yX6_heard wsX6_heard rmX6_heard (qPc ceM 42 ad cy X A D zs [.ref (ad 0), .int a1, .int a2, .int a3, .int a4] σ) (qQi ceM 42 ad cy X A D r0 σ0) 0 0 A := by
  refine Met.ofW (cc := cX6_heard) (maxL := 7) (ret := (some .int)) (by decide) rfl ?_
  intro p e s m args below meth c s₁ B hml hv
  obtain ⟨ha, hP, hK, hE, hD⟩ := hv
  have C : qC ceM 42 ad cy X A D zs cX6_heard 7 RX6 wsX6_heard p s m args meth c (some .int) := ⟨B.exec, B.bytes, hml, findClass_of_methodNamed B.named, atoms_spec (ws := wsX6_heard) B.pre, hK, hD, B.returns, B.notSynchronized, hE⟩
  rw [show entryFrame m args 7 = entryFrame m ([.ref (ad 0), .int a1, .int a2, .int a3, .int a4] : List Value).toArray 7 by rw [ha]]
  refine q_entry (A := A) (Nat.le_of_ble_eq_true rfl) hP (lv := [(0, .ref (ad 0)), (1, .int a1), (2, .int a2), (3, .int a3), (4, .int a4)]) rfl ?_
  unfold fX6_heard at h
  refine q_aload_n C dX6_heard_0 rfl 0 rfl ?_
  refine q_iload_n C dX6_heard_1 rfl 1 rfl ?_
  refine q_callVi C (rm := rmX6_isLand) (As := [.int a1]) (rest := []) (id := 0) (ci := 6) (fun r9 σ9 h9 => kX6_isLand l D ad cy X A zs σ a1 r9 σ9 h9) gX6_heard_X6_isLand rfl rfl rfl hyX6_isLand ⟨Nat.le_of_ble_eq_true rfl, Nat.le_of_ble_eq_true rfl⟩ (by decide) (ceM_0 ad cy _ _ _) rfl rfl rfl (Nat.le_of_ble_eq_true rfl) dX6_heard_2 ⟨Nat.zero_le _, Nat.zero_le _⟩ h (fun r2 σ2 h => ?_)
  refine q_join (G := fun (y32 : St) => qVi ceM 42 ad cy X A D p l e (headSpec wsX6_heard rmX6_heard).room s m args below meth c 7 r0 σ0 32 [] [] y32) h (fun y32 h => ?_) (fun j32 hj32 h => ?_)
  · refine q_iconst C (v := -1) dX6_heard_32 (by decide) ?_
    exact q_iret C rfl dX6_heard_33 h
  refine q_if_eq C (tgt := 32) dX6_heard_5 (by decide) h (fun h => ?_) (fun h => ?_)
  · exact q_sub [] rfl (hj32 σ2 h)
  · refine q_iload_n C dX6_heard_8 rfl 2 rfl ?_
    refine q_callSi C (rm := rmX6_isMonth) (As := [.int a2]) (rest := []) (fun r9 σ9 h9 => kX6_isMonth l D ad cy X A zs σ2 a2 r9 σ9 h9) gX6_heard_X6_isMonth rfl rfl rfl hyX6_isMonth ⟨Nat.le_of_ble_eq_true rfl, Nat.le_of_ble_eq_true rfl⟩ rfl rfl (Nat.le_of_ble_eq_true rfl) dX6_heard_9 ⟨Nat.zero_le _, Nat.zero_le _⟩ h (fun r9 σ9 h => ?_)
    refine q_if_eq C (tgt := 32) dX6_heard_12 (by decide) h (fun h => ?_) (fun h => ?_)
    · exact q_sub [] rfl (hj32 σ9 h)
    · refine q_iload_n C dX6_heard_15 rfl 2 rfl ?_
      refine q_if_eq C (tgt := 32) dX6_heard_16 (by decide) h (fun h => ?_) (fun h => ?_)
      · exact q_sub [] rfl (hj32 σ9 h)
      · refine q_iload_n C dX6_heard_19 rfl 3 rfl ?_
        refine q_if_lt C (tgt := 32) dX6_heard_20 (by decide) h (fun h => ?_) (fun h => ?_)
        · exact q_sub [] rfl (hj32 σ9 h)
        · refine q_aload_n C dX6_heard_23 rfl 0 rfl ?_
          refine q_iload C dX6_heard_24 4 rfl ?_
          refine q_callVi C (rm := rmX6_isKnown) (As := [.int a4]) (rest := []) (id := 0) (ci := 6) (fun rZ σZ hZ => kX6_isKnown l D ad cy X A zs σ9 a4 rZ σZ hZ) gX6_heard_X6_isKnown rfl rfl rfl hyX6_isKnown ⟨Nat.le_of_ble_eq_true rfl, Nat.le_of_ble_eq_true rfl⟩ (by decide) (ceM_0 ad cy _ _ _) rfl rfl rfl (Nat.le_of_ble_eq_true rfl) dX6_heard_26 ⟨Nat.zero_le _, Nat.zero_le _⟩ h (fun r26 σ26 h => ?_)
          refine q_if_ne C (tgt := 34) dX6_heard_29 (by decide) h (fun h => ?_) (fun h => ?_)
          · refine q_aload_n C dX6_heard_34 rfl 0 rfl ?_
            refine q_iload C dX6_heard_35 4 rfl ?_
            refine q_callVv C (rm := rmX6_goes) (As := [.int a4]) (rest := []) (id := 0) (ci := 6) (fun r9 σ9 h9 => kX6_goes l D ad cy X A zs σ26 a4 r9 σ9 h9) gX6_heard_X6_goes rfl rfl rfl hyX6_goes ⟨Nat.le_of_ble_eq_true rfl, Nat.le_of_ble_eq_true rfl⟩ (by decide) (ceM_0 ad cy _ _ _) rfl rfl rfl (Nat.le_of_ble_eq_true rfl) dX6_heard_37 ⟨Nat.zero_le _, Nat.zero_le _⟩ h (fun r37 σ37 h => ?_)
            refine q_iload_n C dX6_heard_40 rfl 2 rfl ?_
            refine q_aload_n C dX6_heard_41 rfl 0 rfl ?_
            refine q_get C (Cn := RX6) (T := TX6) (Nf := 60) (ci := 6) (id := 0) (k := 50) (v := .ref (ad 32)) nX6_heard_X6 (by decide) (ceM_0 ad cy _ _ _) rfl (by decide) rfl hX6_heard_116 dX6_heard_42 ?_
            refine q_iload_n C dX6_heard_45 rfl 1 rfl ?_
            refine q_iald C (id := 32) (by decide) (ceM_32 ad cy _ _ _) dX6_heard_46 h (fun h => ?_)
            refine q_icmp_lt C (tgt := 52) dX6_heard_47 (by decide) h (fun h => ?_) (fun h => ?_)
            · refine q_iload_n C dX6_heard_52 rfl 3 rfl ?_
              refine q_istore C dX6_heard_53 (by decide) (lv' := [(0, .ref (ad 0)), (1, .int a1), (2, .int a2), (3, .int a3), (4, .int a4), (5, .int a3)]) rfl ?_
              refine q_iconst C (v := 0) dX6_heard_55 (by decide) ?_
              refine q_istore C dX6_heard_56 (by decide) (lv' := [(0, .ref (ad 0)), (1, .int a1), (2, .int a2), (3, .int a3), (4, .int a4), (5, .int a3), (6, .int (0 : Int32))]) rfl ?_
              exact q_sub [0, 1, 2, 4, 5, 6] rfl ((kX6_heard_L C r0 σ0 100000) a3 (0 : Int32) σ37 h)
            · refine q_iconst C (v := -1) dX6_heard_50 (by decide) ?_
              exact q_iret C rfl dX6_heard_51 h
          · exact q_sub [] rfl (hj32 σ26 h)
abbrev rmX6_dateOf : Room := { frames := 0, cells := 0, slots := 0, locals := 0 }
theorem hyX6_dateOf : yX6_dateOf.cls = RX6 ∧ yX6_dateOf.cls ≠ "java/lang/invoke/MethodHandle" ∧ yX6_dateOf.cls ≠ "java/lang/invoke/VarHandle" ∧ (parseMethodDescriptor yX6_dateOf.desc).map (fun d => d.parameters.length) = some 2 := by decide +kernel
theorem nX6_dateOf_X6 : ∀ w ∈ u_ws RX6 TX6 60, w ∈ wsX6_dateOf := by decide +kernel
theorem hX6_dateOf_116 : Cond.fieldLink RX6 116 (TX6 50).1 (TX6 50).2.1 (TX6 50).2.2.1 ∈ wsX6_dateOf := by decide +kernel
theorem hX6_dateOf_119 : Cond.fieldLink RX6 119 (TX6 51).1 (TX6 51).2.1 (TX6 51).2.2.1 ∈ wsX6_dateOf := by decide +kernel
def fX6_dateOf_L (a1 : Int32) (a2 : Int32) : Nat → Int32 → St → Option (Int32 × St)
  | 0, _, _ => none
  | n + 1, v3, σ => qix a1 6 (qlet (fun (y37 : Unit) => (qlet (fun (y66 : Int32) => (some (y66, σ))) (fun j66 => (if v3 = (-1 : Int32) then (j66 (-1 : Int32)) else (qix (((16 : Int32) * a1) + v3) 96 (j66 (((((100 : Int32) * v3) + a2) - (σ.1 33 (((16 : Int32) * a1) + v3).toNatClampNeg)) + (1 : Int32)))))))) (fun j37 => (if (σ.1 32 a1.toNatClampNeg) ≤ (v3 + (1 : Int32)) then (j37 ()) else (qix ((((16 : Int32) * a1) + v3) + (1 : Int32)) 96 (if a2 < (σ.1 33 ((((16 : Int32) * a1) + v3) + (1 : Int32)).toNatClampNeg) then (j37 ()) else (qlet (v3 + (1 : Int32)) (fun x31 => fX6_dateOf_L a1 a2 n x31 σ)))))))
def fX6_dateOf (σ : St) (a1 : Int32) (a2 : Int32) : Option (Int32 × St) := fX6_dateOf_L a1 a2 100000 (-1 : Int32) σ
set_option maxHeartbeats 4000000 in
set_option maxRecDepth 100000 in
theorem kX6_dateOf_L {ad : Nat → Nat} {cy : Nat → ClassId} {X : va_W} {A : Nat → Prop} {D : va_G} {zs : Nat × Nat × Option Nat} {p : Program} {l : Launch} {e : Env} {s : State} {m : MethodId} {args : Array Value} {below : List Frame} {meth : Method} {c : Code} {a1 : Int32} {a2 : Int32} (C : qC ceM 42 ad cy X A D zs cX6_dateOf 4 RX6 wsX6_dateOf p s m args meth c (some .int)) (r0 : Int32) (σ0 : St) (n : Nat) : (∀ (v3 : Int32) (σ : St), fX6_dateOf_L a1 a2 n v3 σ = some (r0, σ0) → qVi ceM 42 ad cy X A D p l e (headSpec wsX6_dateOf rmX6_dateOf).room s m args below meth c 4 r0 σ0 2 [(0, .ref (ad 0)), (1, .int a1), (2, .int a2), (3, .int v3)] [] σ) := by
  induction n with
  | zero =>
    intro v3 σ h; cases h
  | succ n ih =>
    intro v3 σ h
    rw [fX6_dateOf_L] at h
    refine q_iload_n C dX6_dateOf_2 rfl 3 rfl ?_
    refine q_iconst C (v := 1) dX6_dateOf_3 (by decide) ?_
    refine q_iadd C dX6_dateOf_4 ?_
    refine q_aload_n C dX6_dateOf_5 rfl 0 rfl ?_
    refine q_get C (Cn := RX6) (T := TX6) (Nf := 60) (ci := 6) (id := 0) (k := 50) (v := .ref (ad 32)) nX6_dateOf_X6 (by decide) (ceM_0 ad cy _ _ _) rfl (by decide) rfl hX6_dateOf_116 dX6_dateOf_6 ?_
    refine q_iload_n C dX6_dateOf_9 rfl 1 rfl ?_
    refine q_iald C (id := 32) (by decide) (ceM_32 ad cy _ _ _) dX6_dateOf_10 h (fun h => ?_)
    refine q_join (G := fun (y37 : Unit) => qVi ceM 42 ad cy X A D p l e (headSpec wsX6_dateOf rmX6_dateOf).room s m args below meth c 4 r0 σ0 37 [(0, .ref (ad 0)), (1, .int a1), (2, .int a2), (3, .int v3)] [] σ) h (fun y37 h => ?_) (fun j37 hj37 h => ?_)
    · refine q_iload_n C dX6_dateOf_37 rfl 3 rfl ?_
      refine q_iconst C (v := -1) dX6_dateOf_38 (by decide) ?_
      refine q_join (G := fun (y66 : Int32) => qVi ceM 42 ad cy X A D p l e (headSpec wsX6_dateOf rmX6_dateOf).room s m args below meth c 4 r0 σ0 66 [] [.int y66] σ) h (fun y66 h => ?_) (fun j66 hj66 h => ?_)
      · exact q_iret C rfl dX6_dateOf_66 h
      refine q_icmp_ne C (tgt := 46) dX6_dateOf_39 (by decide) h (fun h => ?_) (fun h => ?_)
      · refine q_bipush C (v := 100) dX6_dateOf_46 (by decide) ?_
        refine q_iload_n C dX6_dateOf_48 rfl 3 rfl ?_
        refine q_imul C dX6_dateOf_49 ?_
        refine q_iload_n C dX6_dateOf_50 rfl 2 rfl ?_
        refine q_iadd C dX6_dateOf_51 ?_
        refine q_aload_n C dX6_dateOf_52 rfl 0 rfl ?_
        refine q_get C (Cn := RX6) (T := TX6) (Nf := 60) (ci := 6) (id := 0) (k := 51) (v := .ref (ad 33)) nX6_dateOf_X6 (by decide) (ceM_0 ad cy _ _ _) rfl (by decide) rfl hX6_dateOf_119 dX6_dateOf_53 ?_
        refine q_bipush C (v := 16) dX6_dateOf_56 (by decide) ?_
        refine q_iload_n C dX6_dateOf_58 rfl 1 rfl ?_
        refine q_imul C dX6_dateOf_59 ?_
        refine q_iload_n C dX6_dateOf_60 rfl 3 rfl ?_
        refine q_iadd C dX6_dateOf_61 ?_
        refine q_iald C (id := 33) (by decide) (ceM_33 ad cy _ _ _) dX6_dateOf_62 h (fun h => ?_)
        refine q_isub C dX6_dateOf_63 ?_
        refine q_iconst C (v := 1) dX6_dateOf_64 (by decide) ?_
        refine q_iadd C dX6_dateOf_65 ?_
        exact q_sub [] rfl (hj66 (((((100 : Int32) * v3) + a2) - (σ.1 33 (((16 : Int32) * a1) + v3).toNatClampNeg)) + (1 : Int32)) h)
      · refine q_iconst C (v := -1) dX6_dateOf_42 (by decide) ?_
        refine q_goto C (tgt := 66) dX6_dateOf_43 (by decide) ?_
        exact q_sub [] rfl (hj66 (-1 : Int32) h)
    refine q_icmp_ge C (tgt := 37) dX6_dateOf_11 (by decide) h (fun h => ?_) (fun h => ?_)
    · exact q_sub [0, 1, 2, 3] rfl (hj37 () h)
    · refine q_aload_n C dX6_dateOf_14 rfl 0 rfl ?_
      refine q_get C (Cn := RX6) (T := TX6) (Nf := 60) (ci := 6) (id := 0) (k := 51) (v := .ref (ad 33)) nX6_dateOf_X6 (by decide) (ceM_0 ad cy _ _ _) rfl (by decide) rfl hX6_dateOf_119 dX6_dateOf_15 ?_
      refine q_bipush C (v := 16) dX6_dateOf_18 (by decide) ?_
      refine q_iload_n C dX6_dateOf_20 rfl 1 rfl ?_
      refine q_imul C dX6_dateOf_21 ?_
      refine q_iload_n C dX6_dateOf_22 rfl 3 rfl ?_
      refine q_iadd C dX6_dateOf_23 ?_
      refine q_iconst C (v := 1) dX6_dateOf_24 (by decide) ?_
      refine q_iadd C dX6_dateOf_25 ?_
      refine q_iald C (id := 33) (by decide) (ceM_33 ad cy _ _ _) dX6_dateOf_26 h (fun h => ?_)
      refine q_iload_n C dX6_dateOf_27 rfl 2 rfl ?_
      refine q_icmp_gt C (tgt := 37) dX6_dateOf_28 (by decide) h (fun h => ?_) (fun h => ?_)
      · exact q_sub [0, 1, 2, 3] rfl (hj37 () h)
      · refine q_iincL C dX6_dateOf_31 3 rfl (by decide) (nv := 1) (by decide) h (lw := fun x31 => [(0, .ref (ad 0)), (1, .int a1), (2, .int a2), (3, .int x31)]) (fun _ => rfl) (fun x31 h => ?_)
        refine q_goto C (tgt := 2) dX6_dateOf_34 (by decide) ?_
        exact q_sub [0, 1, 2, 3] rfl (ih x31 σ h)
set_option maxHeartbeats 4000000 in
set_option maxRecDepth 100000 in
theorem kX6_dateOf (l : Launch) (D : va_G) (ad : Nat → Nat) (cy : Nat → ClassId) (X : va_W) (A : Nat → Prop) (zs : Nat × Nat × Option Nat) (σ : St) (a1 : Int32) (a2 : Int32) (r0 : Int32) (σ0 : St) (h : fX6_dateOf σ a1 a2 = some (r0, σ0)) : Met l yX6_dateOf wsX6_dateOf rmX6_dateOf (qPc ceM 42 ad cy X A D zs [.ref (ad 0), .int a1, .int a2] σ) (qQi ceM 42 ad cy X A D r0 σ0) 0 0 A := by
  refine Met.ofW (cc := cX6_dateOf) (maxL := 4) (ret := (some .int)) (by decide) rfl ?_
  intro p e s m args below meth c s₁ B hml hv
  obtain ⟨ha, hP, hK, hE, hD⟩ := hv
  have C : qC ceM 42 ad cy X A D zs cX6_dateOf 4 RX6 wsX6_dateOf p s m args meth c (some .int) := ⟨B.exec, B.bytes, hml, findClass_of_methodNamed B.named, atoms_spec (ws := wsX6_dateOf) B.pre, hK, hD, B.returns, B.notSynchronized, hE⟩
  rw [show entryFrame m args 4 = entryFrame m ([.ref (ad 0), .int a1, .int a2] : List Value).toArray 4 by rw [ha]]
  refine q_entry (A := A) (Nat.le_of_ble_eq_true rfl) hP (lv := [(0, .ref (ad 0)), (1, .int a1), (2, .int a2)]) rfl ?_
  unfold fX6_dateOf at h
  refine q_iconst C (v := -1) dX6_dateOf_0 (by decide) ?_
  refine q_istore_n C dX6_dateOf_1 rfl (by decide) (lv' := [(0, .ref (ad 0)), (1, .int a1), (2, .int a2), (3, .int (-1 : Int32))]) rfl ?_
  exact q_sub [0, 1, 2, 3] rfl ((kX6_dateOf_L C r0 σ0 100000) (-1 : Int32) σ h)
abbrev rmX6_date : Room := { frames := 7, cells := 0, slots := 0, locals := 177 }
theorem hyX6_date : yX6_date.cls = RX6 ∧ yX6_date.cls ≠ "java/lang/invoke/MethodHandle" ∧ yX6_date.cls ≠ "java/lang/invoke/VarHandle" ∧ (parseMethodDescriptor yX6_date.desc).map (fun d => d.parameters.length) = some 3 := by decide +kernel
def fX6_date (σ : St) (a1 : Int32) (a2 : Int32) (a3 : Int32) : Option (Int32 × St) := qcall (fX6_isLand σ a1) (fun r2 σ2 => qlet (fun (y23 : St) => (some ((-1 : Int32), y23))) (fun j23 => (if r2 = (0 : Int32) then (j23 σ2) else (qcall (fX6_isEvening σ2 a2) (fun r9 σ9 => if r9 = (0 : Int32) then (j23 σ9) else (qcall (fX6_isKnown σ9 a3) (fun r17 σ17 => if r17 = (0 : Int32) then (j23 σ17) else (qcall (fX6_goes σ17 a3) (fun _ σ27 => qcall (fX6_dateOf σ27 a1 a2) (fun r33 σ33 => some (r33, σ33)))))))))))
set_option maxHeartbeats 4000000 in
set_option maxRecDepth 100000 in
theorem kX6_date (l : Launch) (D : va_G) (ad : Nat → Nat) (cy : Nat → ClassId) (X : va_W) (A : Nat → Prop) (zs : Nat × Nat × Option Nat) (σ : St) (a1 : Int32) (a2 : Int32) (a3 : Int32) (r0 : Int32) (σ0 : St) (h : fX6_date σ a1 a2 a3 = some (r0, σ0)) : Met l yX6_date wsX6_date rmX6_date (qPc ceM 42 ad cy X A D zs [.ref (ad 0), .int a1, .int a2, .int a3] σ) (qQi ceM 42 ad cy X A D r0 σ0) 0 0 A := by
  refine Met.ofW (cc := cX6_date) (maxL := 4) (ret := (some .int)) (by decide) rfl ?_
  intro p e s m args below meth c s₁ B hml hv
  obtain ⟨ha, hP, hK, hE, hD⟩ := hv
  have C : qC ceM 42 ad cy X A D zs cX6_date 4 RX6 wsX6_date p s m args meth c (some .int) := ⟨B.exec, B.bytes, hml, findClass_of_methodNamed B.named, atoms_spec (ws := wsX6_date) B.pre, hK, hD, B.returns, B.notSynchronized, hE⟩
  rw [show entryFrame m args 4 = entryFrame m ([.ref (ad 0), .int a1, .int a2, .int a3] : List Value).toArray 4 by rw [ha]]
  refine q_entry (A := A) (Nat.le_of_ble_eq_true rfl) hP (lv := [(0, .ref (ad 0)), (1, .int a1), (2, .int a2), (3, .int a3)]) rfl ?_
  unfold fX6_date at h
  refine q_aload_n C dX6_date_0 rfl 0 rfl ?_
  refine q_iload_n C dX6_date_1 rfl 1 rfl ?_
  refine q_callVi C (rm := rmX6_isLand) (As := [.int a1]) (rest := []) (id := 0) (ci := 6) (fun r9 σ9 h9 => kX6_isLand l D ad cy X A zs σ a1 r9 σ9 h9) gX6_date_X6_isLand rfl rfl rfl hyX6_isLand ⟨Nat.le_of_ble_eq_true rfl, Nat.le_of_ble_eq_true rfl⟩ (by decide) (ceM_0 ad cy _ _ _) rfl rfl rfl (Nat.le_of_ble_eq_true rfl) dX6_date_2 ⟨Nat.zero_le _, Nat.zero_le _⟩ h (fun r2 σ2 h => ?_)
  refine q_join (G := fun (y23 : St) => qVi ceM 42 ad cy X A D p l e (headSpec wsX6_date rmX6_date).room s m args below meth c 4 r0 σ0 23 [] [] y23) h (fun y23 h => ?_) (fun j23 hj23 h => ?_)
  · refine q_iconst C (v := -1) dX6_date_23 (by decide) ?_
    exact q_iret C rfl dX6_date_24 h
  refine q_if_eq C (tgt := 23) dX6_date_5 (by decide) h (fun h => ?_) (fun h => ?_)
  · exact q_sub [] rfl (hj23 σ2 h)
  · refine q_iload_n C dX6_date_8 rfl 2 rfl ?_
    refine q_callSi C (rm := rmX6_isEvening) (As := [.int a2]) (rest := []) (fun r9 σ9 h9 => kX6_isEvening l D ad cy X A zs σ2 a2 r9 σ9 h9) gX6_date_X6_isEvening rfl rfl rfl hyX6_isEvening ⟨Nat.le_of_ble_eq_true rfl, Nat.le_of_ble_eq_true rfl⟩ rfl rfl (Nat.le_of_ble_eq_true rfl) dX6_date_9 ⟨Nat.zero_le _, Nat.zero_le _⟩ h (fun r9 σ9 h => ?_)
    refine q_if_eq C (tgt := 23) dX6_date_12 (by decide) h (fun h => ?_) (fun h => ?_)
    · exact q_sub [] rfl (hj23 σ9 h)
    · refine q_aload_n C dX6_date_15 rfl 0 rfl ?_
      refine q_iload_n C dX6_date_16 rfl 3 rfl ?_
      refine q_callVi C (rm := rmX6_isKnown) (As := [.int a3]) (rest := []) (id := 0) (ci := 6) (fun rZ σZ hZ => kX6_isKnown l D ad cy X A zs σ9 a3 rZ σZ hZ) gX6_date_X6_isKnown rfl rfl rfl hyX6_isKnown ⟨Nat.le_of_ble_eq_true rfl, Nat.le_of_ble_eq_true rfl⟩ (by decide) (ceM_0 ad cy _ _ _) rfl rfl rfl (Nat.le_of_ble_eq_true rfl) dX6_date_17 ⟨Nat.zero_le _, Nat.zero_le _⟩ h (fun r17 σ17 h => ?_)
      refine q_if_ne C (tgt := 25) dX6_date_20 (by decide) h (fun h => ?_) (fun h => ?_)
      · refine q_aload_n C dX6_date_25 rfl 0 rfl ?_
        refine q_iload_n C dX6_date_26 rfl 3 rfl ?_
        refine q_callVv C (rm := rmX6_goes) (As := [.int a3]) (rest := []) (id := 0) (ci := 6) (fun r9 σ9 h9 => kX6_goes l D ad cy X A zs σ17 a3 r9 σ9 h9) gX6_date_X6_goes rfl rfl rfl hyX6_goes ⟨Nat.le_of_ble_eq_true rfl, Nat.le_of_ble_eq_true rfl⟩ (by decide) (ceM_0 ad cy _ _ _) rfl rfl rfl (Nat.le_of_ble_eq_true rfl) dX6_date_27 ⟨Nat.zero_le _, Nat.zero_le _⟩ h (fun r27 σ27 h => ?_)
        refine q_aload_n C dX6_date_30 rfl 0 rfl ?_
        refine q_iload_n C dX6_date_31 rfl 1 rfl ?_
        refine q_iload_n C dX6_date_32 rfl 2 rfl ?_
        refine q_callVi C (rm := rmX6_dateOf) (As := [.int a1, .int a2]) (rest := []) (id := 0) (ci := 6) (fun r9 σ9 h9 => kX6_dateOf l D ad cy X A zs σ27 a1 a2 r9 σ9 h9) gX6_date_X6_dateOf rfl rfl rfl hyX6_dateOf ⟨Nat.le_of_ble_eq_true rfl, Nat.le_of_ble_eq_true rfl⟩ (by decide) (ceM_0 ad cy _ _ _) rfl rfl rfl (Nat.le_of_ble_eq_true rfl) dX6_date_33 ⟨Nat.zero_le _, Nat.zero_le _⟩ h (fun r33 σ33 h => ?_)
        exact q_iret C rfl dX6_date_36 h
      · exact q_sub [] rfl (hj23 σ17 h)
abbrev rmX6_turn : Room := { frames := 7, cells := 0, slots := 0, locals := 177 }
theorem hyX6_turn : yX6_turn.cls = RX6 ∧ yX6_turn.cls ≠ "java/lang/invoke/MethodHandle" ∧ yX6_turn.cls ≠ "java/lang/invoke/VarHandle" ∧ (parseMethodDescriptor yX6_turn.desc).map (fun d => d.parameters.length) = some 5 := by decide +kernel
theorem nX6_turn_X6 : ∀ w ∈ u_ws RX6 TX6 60, w ∈ wsX6_turn := fun w h => List.mem_cons_of_mem _ (List.mem_append_right _ h)
theorem hX6_turn_116 : Cond.fieldLink RX6 116 (TX6 50).1 (TX6 50).2.1 (TX6 50).2.2.1 ∈ wsX6_turn := by decide +kernel
theorem hX6_turn_119 : Cond.fieldLink RX6 119 (TX6 51).1 (TX6 51).2.1 (TX6 51).2.2.1 ∈ wsX6_turn := by decide +kernel
def fX6_turn (σ : St) (a1 : Int32) (a2 : Int32) (a3 : Int32) (a4 : Int32) (a5 : Int32) : Option (Int32 × St) := qcall (fX6_isLand σ a1) (fun r2 σ2 => qlet (fun (y44 : St) => (some ((-1 : Int32), y44))) (fun j44 => (if r2 = (0 : Int32) then (j44 σ2) else (qcall (fX6_isLand σ2 a4) (fun r11 σ11 => if r11 = (0 : Int32) then (j44 σ11) else (qcall (fX6_isMonth σ11 a2) (fun r18 σ18 => if r18 = (0 : Int32) then (j44 σ18) else (if a3 < (1 : Int32) then (j44 σ18) else (if (30 : Int32) < a3 then (j44 σ18) else (qcall (fX6_isKnown σ18 a5) (fun r38 σ38 => if r38 = (0 : Int32) then (j44 σ38) else (qcall (fX6_goes σ38 a5) (fun _ σ49 => qix a1 6 (if a2 < (σ49.1 32 a1.toNatClampNeg) then (qix (((16 : Int32) * a1) + a2) 96 (qlet (((σ49.1 33 (((16 : Int32) * a1) + a2).toNatClampNeg) + a3) - (1 : Int32)) (fun x79 => qlet (fun (y119 : Unit) => (some ((-1 : Int32), σ49))) (fun j119 => (if (400 : Int32) ≤ x79 then (j119 ()) else (qix a1 6 (qlet (fun (y121 : Unit) => (qcall (fX6_dateOf σ49 a4 x79) (fun r126 σ126 => some (r126, σ126)))) (fun j121 => (if (σ49.1 32 a1.toNatClampNeg) ≤ (a2 + (1 : Int32)) then (j121 ()) else (qix ((((16 : Int32) * a1) + a2) + (1 : Int32)) 96 (if x79 < (σ49.1 33 ((((16 : Int32) * a1) + a2) + (1 : Int32)).toNatClampNeg) then (j121 ()) else (j119 ())))))))))))) else (some ((-1 : Int32), σ49))))))))))))))))
set_option maxHeartbeats 4000000 in
set_option maxRecDepth 100000 in
theorem kX6_turn (l : Launch) (D : va_G) (ad : Nat → Nat) (cy : Nat → ClassId) (X : va_W) (A : Nat → Prop) (zs : Nat × Nat × Option Nat) (σ : St) (a1 : Int32) (a2 : Int32) (a3 : Int32) (a4 : Int32) (a5 : Int32) (r0 : Int32) (σ0 : St) (h : fX6_turn σ a1 a2 a3 a4 a5 = some (r0, σ0)) : Met l yX6_turn wsX6_turn rmX6_turn (qPc ceM 42 ad cy X A D zs [.ref (ad 0), .int a1, .int a2, .int a3, .int a4, .int a5] σ) (qQi ceM 42 ad cy X A D r0 σ0) 0 0 A := by
  refine Met.ofW (cc := cX6_turn) (maxL := 7) (ret := (some .int)) (by decide) rfl ?_
  intro p e s m args below meth c s₁ B hml hv
  obtain ⟨ha, hP, hK, hE, hD⟩ := hv
  have C : qC ceM 42 ad cy X A D zs cX6_turn 7 RX6 wsX6_turn p s m args meth c (some .int) := ⟨B.exec, B.bytes, hml, findClass_of_methodNamed B.named, atoms_spec (ws := wsX6_turn) B.pre, hK, hD, B.returns, B.notSynchronized, hE⟩
  rw [show entryFrame m args 7 = entryFrame m ([.ref (ad 0), .int a1, .int a2, .int a3, .int a4, .int a5] : List Value).toArray 7 by rw [ha]]
  refine q_entry (A := A) (Nat.le_of_ble_eq_true rfl) hP (lv := [(0, .ref (ad 0)), (1, .int a1), (2, .int a2), (3, .int a3), (4, .int a4), (5, .int a5)]) rfl ?_
  unfold fX6_turn at h
  refine q_aload_n C dX6_turn_0 rfl 0 rfl ?_
  refine q_iload_n C dX6_turn_1 rfl 1 rfl ?_
  refine q_callVi C (rm := rmX6_isLand) (As := [.int a1]) (rest := []) (id := 0) (ci := 6) (fun r9 σ9 h9 => kX6_isLand l D ad cy X A zs σ a1 r9 σ9 h9) gX6_turn_X6_isLand rfl rfl rfl hyX6_isLand ⟨Nat.le_of_ble_eq_true rfl, Nat.le_of_ble_eq_true rfl⟩ (by decide) (ceM_0 ad cy _ _ _) rfl rfl rfl (Nat.le_of_ble_eq_true rfl) dX6_turn_2 ⟨Nat.zero_le _, Nat.zero_le _⟩ h (fun r2 σ2 h => ?_)
  refine q_join (G := fun (y44 : St) => qVi ceM 42 ad cy X A D p l e (headSpec wsX6_turn rmX6_turn).room s m args below meth c 7 r0 σ0 44 [] [] y44) h (fun y44 h => ?_) (fun j44 hj44 h => ?_)
  · refine q_iconst C (v := -1) dX6_turn_44 (by decide) ?_
    exact q_iret C rfl dX6_turn_45 h
  refine q_if_eq C (tgt := 44) dX6_turn_5 (by decide) h (fun h => ?_) (fun h => ?_)
  · exact q_sub [] rfl (hj44 σ2 h)
  · refine q_aload_n C dX6_turn_8 rfl 0 rfl ?_
    refine q_iload C dX6_turn_9 4 rfl ?_
    refine q_callVi C (rm := rmX6_isLand) (As := [.int a4]) (rest := []) (id := 0) (ci := 6) (fun r9 σ9 h9 => kX6_isLand l D ad cy X A zs σ2 a4 r9 σ9 h9) gX6_turn_X6_isLand rfl rfl rfl hyX6_isLand ⟨Nat.le_of_ble_eq_true rfl, Nat.le_of_ble_eq_true rfl⟩ (by decide) (ceM_0 ad cy _ _ _) rfl rfl rfl (Nat.le_of_ble_eq_true rfl) dX6_turn_11 ⟨Nat.zero_le _, Nat.zero_le _⟩ h (fun r11 σ11 h => ?_)
    refine q_if_eq C (tgt := 44) dX6_turn_14 (by decide) h (fun h => ?_) (fun h => ?_)
    · exact q_sub [] rfl (hj44 σ11 h)
    · refine q_iload_n C dX6_turn_17 rfl 2 rfl ?_
      refine q_callSi C (rm := rmX6_isMonth) (As := [.int a2]) (rest := []) (fun r9 σ9 h9 => kX6_isMonth l D ad cy X A zs σ11 a2 r9 σ9 h9) gX6_turn_X6_isMonth rfl rfl rfl hyX6_isMonth ⟨Nat.le_of_ble_eq_true rfl, Nat.le_of_ble_eq_true rfl⟩ rfl rfl (Nat.le_of_ble_eq_true rfl) dX6_turn_18 ⟨Nat.zero_le _, Nat.zero_le _⟩ h (fun r18 σ18 h => ?_)
      refine q_if_eq C (tgt := 44) dX6_turn_21 (by decide) h (fun h => ?_) (fun h => ?_)
      · exact q_sub [] rfl (hj44 σ18 h)
      · refine q_iload_n C dX6_turn_24 rfl 3 rfl ?_
        refine q_iconst C (v := 1) dX6_turn_25 (by decide) ?_
        refine q_icmp_lt C (tgt := 44) dX6_turn_26 (by decide) h (fun h => ?_) (fun h => ?_)
        · exact q_sub [] rfl (hj44 σ18 h)
        · refine q_iload_n C dX6_turn_29 rfl 3 rfl ?_
          refine q_bipush C (v := 30) dX6_turn_30 (by decide) ?_
          refine q_icmp_gt C (tgt := 44) dX6_turn_32 (by decide) h (fun h => ?_) (fun h => ?_)
          · exact q_sub [] rfl (hj44 σ18 h)
          · refine q_aload_n C dX6_turn_35 rfl 0 rfl ?_
            refine q_iload C dX6_turn_36 5 rfl ?_
            refine q_callVi C (rm := rmX6_isKnown) (As := [.int a5]) (rest := []) (id := 0) (ci := 6) (fun r9 σ9 h9 => kX6_isKnown l D ad cy X A zs σ18 a5 r9 σ9 h9) gX6_turn_X6_isKnown rfl rfl rfl hyX6_isKnown ⟨Nat.le_of_ble_eq_true rfl, Nat.le_of_ble_eq_true rfl⟩ (by decide) (ceM_0 ad cy _ _ _) rfl rfl rfl (Nat.le_of_ble_eq_true rfl) dX6_turn_38 ⟨Nat.zero_le _, Nat.zero_le _⟩ h (fun r38 σ38 h => ?_)
            refine q_if_ne C (tgt := 46) dX6_turn_41 (by decide) h (fun h => ?_) (fun h => ?_)
            · refine q_aload_n C dX6_turn_46 rfl 0 rfl ?_
              refine q_iload C dX6_turn_47 5 rfl ?_
              refine q_callVv C (rm := rmX6_goes) (As := [.int a5]) (rest := []) (id := 0) (ci := 6) (fun r9 σ9 h9 => kX6_goes l D ad cy X A zs σ38 a5 r9 σ9 h9) gX6_turn_X6_goes rfl rfl rfl hyX6_goes ⟨Nat.le_of_ble_eq_true rfl, Nat.le_of_ble_eq_true rfl⟩ (by decide) (ceM_0 ad cy _ _ _) rfl rfl rfl (Nat.le_of_ble_eq_true rfl) dX6_turn_49 ⟨Nat.zero_le _, Nat.zero_le _⟩ h (fun r49 σ49 h => ?_)
              refine q_iload_n C dX6_turn_52 rfl 2 rfl ?_
              refine q_aload_n C dX6_turn_53 rfl 0 rfl ?_
              refine q_get C (Cn := RX6) (T := TX6) (Nf := 60) (ci := 6) (id := 0) (k := 50) (v := .ref (ad 32)) nX6_turn_X6 (by decide) (ceM_0 ad cy _ _ _) rfl (by decide) rfl hX6_turn_116 dX6_turn_54 ?_
              refine q_iload_n C dX6_turn_57 rfl 1 rfl ?_
              refine q_iald C (id := 32) (by decide) (ceM_32 ad cy _ _ _) dX6_turn_58 h (fun h => ?_)
              refine q_icmp_lt C (tgt := 64) dX6_turn_59 (by decide) h (fun h => ?_) (fun h => ?_)
              · refine q_aload_n C dX6_turn_64 rfl 0 rfl ?_
                refine q_get C (Cn := RX6) (T := TX6) (Nf := 60) (ci := 6) (id := 0) (k := 51) (v := .ref (ad 33)) nX6_turn_X6 (by decide) (ceM_0 ad cy _ _ _) rfl (by decide) rfl hX6_turn_119 dX6_turn_65 ?_
                refine q_bipush C (v := 16) dX6_turn_68 (by decide) ?_
                refine q_iload_n C dX6_turn_70 rfl 1 rfl ?_
                refine q_imul C dX6_turn_71 ?_
                refine q_iload_n C dX6_turn_72 rfl 2 rfl ?_
                refine q_iadd C dX6_turn_73 ?_
                refine q_iald C (id := 33) (by decide) (ceM_33 ad cy _ _ _) dX6_turn_74 h (fun h => ?_)
                refine q_iload_n C dX6_turn_75 rfl 3 rfl ?_
                refine q_iadd C dX6_turn_76 ?_
                refine q_iconst C (v := 1) dX6_turn_77 (by decide) ?_
                refine q_isub C dX6_turn_78 ?_
                refine q_istoreL C dX6_turn_79 (by decide) h (lw := fun x79 => [(0, .ref (ad 0)), (1, .int a1), (2, .int a2), (3, .int a3), (4, .int a4), (5, .int a5), (6, .int x79)]) (fun _ => rfl) (fun x79 h => ?_)
                refine q_iload C dX6_turn_81 6 rfl ?_
                refine q_sipush C (v := 400) dX6_turn_83 (by decide) ?_
                refine q_join (G := fun (y119 : Unit) => qVi ceM 42 ad cy X A D p l e (headSpec wsX6_turn rmX6_turn).room s m args below meth c 7 r0 σ0 119 [] [] σ49) h (fun y119 h => ?_) (fun j119 hj119 h => ?_)
                · refine q_iconst C (v := -1) dX6_turn_119 (by decide) ?_
                  exact q_iret C rfl dX6_turn_120 h
                refine q_icmp_ge C (tgt := 119) dX6_turn_86 (by decide) h (fun h => ?_) (fun h => ?_)
                · exact q_sub [] rfl (hj119 () h)
                · refine q_iload_n C dX6_turn_89 rfl 2 rfl ?_
                  refine q_iconst C (v := 1) dX6_turn_90 (by decide) ?_
                  refine q_iadd C dX6_turn_91 ?_
                  refine q_aload_n C dX6_turn_92 rfl 0 rfl ?_
                  refine q_get C (Cn := RX6) (T := TX6) (Nf := 60) (ci := 6) (id := 0) (k := 50) (v := .ref (ad 32)) nX6_turn_X6 (by decide) (ceM_0 ad cy _ _ _) rfl (by decide) rfl hX6_turn_116 dX6_turn_93 ?_
                  refine q_iload_n C dX6_turn_96 rfl 1 rfl ?_
                  refine q_iald C (id := 32) (by decide) (ceM_32 ad cy _ _ _) dX6_turn_97 h (fun h => ?_)
                  refine q_join (G := fun (y121 : Unit) => qVi ceM 42 ad cy X A D p l e (headSpec wsX6_turn rmX6_turn).room s m args below meth c 7 r0 σ0 121 [(0, .ref (ad 0)), (4, .int a4), (6, .int x79)] [] σ49) h (fun y121 h => ?_) (fun j121 hj121 h => ?_)
                  · refine q_aload_n C dX6_turn_121 rfl 0 rfl ?_
                    refine q_iload C dX6_turn_122 1 rfl ?_
                    refine q_iload C dX6_turn_124 2 rfl ?_
                    refine q_callVi C (rm := rmX6_dateOf) (As := [.int a4, .int x79]) (rest := []) (id := 0) (ci := 6) (fun r9 σ9 h9 => kX6_dateOf l D ad cy X A zs σ49 a4 x79 r9 σ9 h9) gX6_turn_X6_dateOf rfl rfl rfl hyX6_dateOf ⟨Nat.le_of_ble_eq_true rfl, Nat.le_of_ble_eq_true rfl⟩ (by decide) (ceM_0 ad cy _ _ _) rfl rfl rfl (Nat.le_of_ble_eq_true rfl) dX6_turn_126 ⟨Nat.zero_le _, Nat.zero_le _⟩ h (fun r126 σ126 h => ?_)
                    exact q_iret C rfl dX6_turn_129 h
                  refine q_icmp_ge C (tgt := 121) dX6_turn_98 (by decide) h (fun h => ?_) (fun h => ?_)
                  · exact q_sub [0, 4, 6] rfl (hj121 () h)
                  · refine q_iload C dX6_turn_101 6 rfl ?_
                    refine q_aload_n C dX6_turn_103 rfl 0 rfl ?_
                    refine q_get C (Cn := RX6) (T := TX6) (Nf := 60) (ci := 6) (id := 0) (k := 51) (v := .ref (ad 33)) nX6_turn_X6 (by decide) (ceM_0 ad cy _ _ _) rfl (by decide) rfl hX6_turn_119 dX6_turn_104 ?_
                    refine q_bipush C (v := 16) dX6_turn_107 (by decide) ?_
                    refine q_iload_n C dX6_turn_109 rfl 1 rfl ?_
                    refine q_imul C dX6_turn_110 ?_
                    refine q_iload_n C dX6_turn_111 rfl 2 rfl ?_
                    refine q_iadd C dX6_turn_112 ?_
                    refine q_iconst C (v := 1) dX6_turn_113 (by decide) ?_
                    refine q_iadd C dX6_turn_114 ?_
                    refine q_iald C (id := 33) (by decide) (ceM_33 ad cy _ _ _) dX6_turn_115 h (fun h => ?_)
                    refine q_icmp_lt C (tgt := 121) dX6_turn_116 (by decide) h (fun h => ?_) (fun h => ?_)
                    · exact q_sub [0, 4, 6] rfl (hj121 () h)
                    · exact q_sub [] rfl (hj119 () h)
              · refine q_iconst C (v := -1) dX6_turn_62 (by decide) ?_
                exact q_iret C rfl dX6_turn_63 h
            · exact q_sub [] rfl (hj44 σ38 h)
abbrev rmX6_unlike : Room := { frames := 7, cells := 0, slots := 0, locals := 177 }
theorem hyX6_unlike : yX6_unlike.cls = RX6 ∧ yX6_unlike.cls ≠ "java/lang/invoke/MethodHandle" ∧ yX6_unlike.cls ≠ "java/lang/invoke/VarHandle" ∧ (parseMethodDescriptor yX6_unlike.desc).map (fun d => d.parameters.length) = some 5 := by decide +kernel
def fX6_unlike_L (a1 : Int32) (a2 : Int32) (a3 : Int32) (a4 : Int32) (a5 : Int32) : Nat → Int32 → Int32 → St → Option (Int32 × St)
  | 0, _, _, _ => none
  | n + 1, v6, v7, σ => if a4 < v7 then (some (v6, σ)) else (qcall (fX6_dateOf σ a1 v7) (fun r71 σ71 => qcall (fX6_dateOf σ71 a2 v7) (fun r78 σ78 => qlet (fun (y87 : Int32) => (qlet (v7 + (1 : Int32)) (fun x87 => fX6_unlike_L a1 a2 a3 a4 a5 n y87 x87 σ78))) (fun j87 => (if r71 = r78 then (j87 v6) else (qlet (v6 + (1 : Int32)) (fun x84 => j87 x84)))))))
def fX6_unlike (σ : St) (a1 : Int32) (a2 : Int32) (a3 : Int32) (a4 : Int32) (a5 : Int32) : Option (Int32 × St) := qcall (fX6_isLand σ a1) (fun r2 σ2 => qlet (fun (y46 : St) => (some ((-1 : Int32), y46))) (fun j46 => (if r2 = (0 : Int32) then (j46 σ2) else (qcall (fX6_isLand σ2 a2) (fun r10 σ10 => if r10 = (0 : Int32) then (j46 σ10) else (qcall (fX6_isEvening σ10 a3) (fun r17 σ17 => if r17 = (0 : Int32) then (j46 σ17) else (qcall (fX6_isEvening σ17 a4) (fun r25 σ25 => if r25 = (0 : Int32) then (j46 σ25) else (if a4 < a3 then (j46 σ25) else (qcall (fX6_isKnown σ25 a5) (fun r40 σ40 => if r40 = (0 : Int32) then (j46 σ40) else (qcall (fX6_goes σ40 a5) (fun _ σ51 => fX6_unlike_L a1 a2 a3 a4 a5 100000 (0 : Int32) a3 σ51))))))))))))))
set_option maxHeartbeats 4000000 in
set_option maxRecDepth 100000 in
theorem kX6_unlike_L {ad : Nat → Nat} {cy : Nat → ClassId} {X : va_W} {A : Nat → Prop} {D : va_G} {zs : Nat × Nat × Option Nat} {p : Program} {l : Launch} {e : Env} {s : State} {m : MethodId} {args : Array Value} {below : List Frame} {meth : Method} {c : Code} {a1 : Int32} {a2 : Int32} {a3 : Int32} {a4 : Int32} {a5 : Int32} (C : qC ceM 42 ad cy X A D zs cX6_unlike 8 RX6 wsX6_unlike p s m args meth c (some .int)) (r0 : Int32) (σ0 : St) (n : Nat) : (∀ (v6 : Int32) (v7 : Int32) (σ : St), fX6_unlike_L a1 a2 a3 a4 a5 n v6 v7 σ = some (r0, σ0) → qVi ceM 42 ad cy X A D p l e (headSpec wsX6_unlike rmX6_unlike).room s m args below meth c 8 r0 σ0 60 [(0, .ref (ad 0)), (1, .int a1), (2, .int a2), (4, .int a4), (6, .int v6), (7, .int v7)] [] σ) := by
  induction n with
  | zero =>
    intro v6 v7 σ h; cases h
  | succ n ih =>
    intro v6 v7 σ h
    rw [fX6_unlike_L] at h
    refine q_iload C dX6_unlike_60 5 rfl ?_
    refine q_iload C dX6_unlike_62 3 rfl ?_
    refine q_icmp_gt C (tgt := 93) dX6_unlike_64 (by decide) h (fun h => ?_) (fun h => ?_)
    · refine q_iload C dX6_unlike_93 4 rfl ?_
      exact q_iret C rfl dX6_unlike_95 h
    · refine q_aload_n C dX6_unlike_67 rfl 0 rfl ?_
      refine q_iload_n C dX6_unlike_68 rfl 1 rfl ?_
      refine q_iload C dX6_unlike_69 5 rfl ?_
      refine q_callVi C (rm := rmX6_dateOf) (As := [.int a1, .int v7]) (rest := []) (id := 0) (ci := 6) (fun r9 σ9 h9 => kX6_dateOf l D ad cy X A zs σ a1 v7 r9 σ9 h9) gX6_unlike_X6_dateOf rfl rfl rfl hyX6_dateOf ⟨Nat.le_of_ble_eq_true rfl, Nat.le_of_ble_eq_true rfl⟩ (by decide) (ceM_0 ad cy _ _ _) rfl rfl rfl (Nat.le_of_ble_eq_true rfl) dX6_unlike_71 ⟨Nat.zero_le _, Nat.zero_le _⟩ h (fun r71 σ71 h => ?_)
      refine q_aload_n C dX6_unlike_74 rfl 0 rfl ?_
      refine q_iload_n C dX6_unlike_75 rfl 2 rfl ?_
      refine q_iload C dX6_unlike_76 5 rfl ?_
      refine q_callVi C (rm := rmX6_dateOf) (As := [.int a2, .int v7]) (rest := [.int r71]) (id := 0) (ci := 6) (fun r9 σ9 h9 => kX6_dateOf l D ad cy X A zs σ71 a2 v7 r9 σ9 h9) gX6_unlike_X6_dateOf rfl rfl rfl hyX6_dateOf ⟨Nat.le_of_ble_eq_true rfl, Nat.le_of_ble_eq_true rfl⟩ (by decide) (ceM_0 ad cy _ _ _) rfl rfl rfl (Nat.le_of_ble_eq_true rfl) dX6_unlike_78 ⟨Nat.zero_le _, Nat.zero_le _⟩ h (fun r78 σ78 h => ?_)
      refine q_join (G := fun (y87 : Int32) => qVi ceM 42 ad cy X A D p l e (headSpec wsX6_unlike rmX6_unlike).room s m args below meth c 8 r0 σ0 87 [(0, .ref (ad 0)), (1, .int a1), (2, .int a2), (4, .int a4), (6, .int y87), (7, .int v7)] [] σ78) h (fun y87 h => ?_) (fun j87 hj87 h => ?_)
      · refine q_iincL C dX6_unlike_87 5 rfl (by decide) (nv := 1) (by decide) h (lw := fun x87 => [(0, .ref (ad 0)), (1, .int a1), (2, .int a2), (4, .int a4), (6, .int y87), (7, .int x87)]) (fun _ => rfl) (fun x87 h => ?_)
        refine q_goto C (tgt := 60) dX6_unlike_90 (by decide) ?_
        exact q_sub [0, 1, 2, 3, 4, 5] rfl (ih y87 x87 σ78 h)
      refine q_icmp_eq C (tgt := 87) dX6_unlike_81 (by decide) h (fun h => ?_) (fun h => ?_)
      · exact q_sub [0, 1, 2, 3, 4, 5] rfl (hj87 v6 h)
      · refine q_iincL C dX6_unlike_84 4 rfl (by decide) (nv := 1) (by decide) h (lw := fun x84 => [(0, .ref (ad 0)), (1, .int a1), (2, .int a2), (4, .int a4), (6, .int x84), (7, .int v7)]) (fun _ => rfl) (fun x84 h => ?_)
        exact q_sub [0, 1, 2, 3, 4, 5] rfl (hj87 x84 h)
set_option maxHeartbeats 4000000 in
set_option maxRecDepth 100000 in
theorem kX6_unlike (l : Launch) (D : va_G) (ad : Nat → Nat) (cy : Nat → ClassId) (X : va_W) (A : Nat → Prop) (zs : Nat × Nat × Option Nat) (σ : St) (a1 : Int32) (a2 : Int32) (a3 : Int32) (a4 : Int32) (a5 : Int32) (r0 : Int32) (σ0 : St) (h : fX6_unlike σ a1 a2 a3 a4 a5 = some (r0, σ0)) : Met l yX6_unlike wsX6_unlike rmX6_unlike (qPc ceM 42 ad cy X A D zs [.ref (ad 0), .int a1, .int a2, .int a3, .int a4, .int a5] σ) (qQi ceM 42 ad cy X A D r0 σ0) 0 0 A := by
  refine Met.ofW (cc := cX6_unlike) (maxL := 8) (ret := (some .int)) (by decide) rfl ?_
  intro p e s m args below meth c s₁ B hml hv
  obtain ⟨ha, hP, hK, hE, hD⟩ := hv
  have C : qC ceM 42 ad cy X A D zs cX6_unlike 8 RX6 wsX6_unlike p s m args meth c (some .int) := ⟨B.exec, B.bytes, hml, findClass_of_methodNamed B.named, atoms_spec (ws := wsX6_unlike) B.pre, hK, hD, B.returns, B.notSynchronized, hE⟩
  rw [show entryFrame m args 8 = entryFrame m ([.ref (ad 0), .int a1, .int a2, .int a3, .int a4, .int a5] : List Value).toArray 8 by rw [ha]]
  refine q_entry (A := A) (Nat.le_of_ble_eq_true rfl) hP (lv := [(0, .ref (ad 0)), (1, .int a1), (2, .int a2), (3, .int a3), (4, .int a4), (5, .int a5)]) rfl ?_
  unfold fX6_unlike at h
  refine q_aload_n C dX6_unlike_0 rfl 0 rfl ?_
  refine q_iload_n C dX6_unlike_1 rfl 1 rfl ?_
  refine q_callVi C (rm := rmX6_isLand) (As := [.int a1]) (rest := []) (id := 0) (ci := 6) (fun r9 σ9 h9 => kX6_isLand l D ad cy X A zs σ a1 r9 σ9 h9) gX6_unlike_X6_isLand rfl rfl rfl hyX6_isLand ⟨Nat.le_of_ble_eq_true rfl, Nat.le_of_ble_eq_true rfl⟩ (by decide) (ceM_0 ad cy _ _ _) rfl rfl rfl (Nat.le_of_ble_eq_true rfl) dX6_unlike_2 ⟨Nat.zero_le _, Nat.zero_le _⟩ h (fun r2 σ2 h => ?_)
  refine q_join (G := fun (y46 : St) => qVi ceM 42 ad cy X A D p l e (headSpec wsX6_unlike rmX6_unlike).room s m args below meth c 8 r0 σ0 46 [] [] y46) h (fun y46 h => ?_) (fun j46 hj46 h => ?_)
  · refine q_iconst C (v := -1) dX6_unlike_46 (by decide) ?_
    exact q_iret C rfl dX6_unlike_47 h
  refine q_if_eq C (tgt := 46) dX6_unlike_5 (by decide) h (fun h => ?_) (fun h => ?_)
  · exact q_sub [] rfl (hj46 σ2 h)
  · refine q_aload_n C dX6_unlike_8 rfl 0 rfl ?_
    refine q_iload_n C dX6_unlike_9 rfl 2 rfl ?_
    refine q_callVi C (rm := rmX6_isLand) (As := [.int a2]) (rest := []) (id := 0) (ci := 6) (fun r9 σ9 h9 => kX6_isLand l D ad cy X A zs σ2 a2 r9 σ9 h9) gX6_unlike_X6_isLand rfl rfl rfl hyX6_isLand ⟨Nat.le_of_ble_eq_true rfl, Nat.le_of_ble_eq_true rfl⟩ (by decide) (ceM_0 ad cy _ _ _) rfl rfl rfl (Nat.le_of_ble_eq_true rfl) dX6_unlike_10 ⟨Nat.zero_le _, Nat.zero_le _⟩ h (fun r10 σ10 h => ?_)
    refine q_if_eq C (tgt := 46) dX6_unlike_13 (by decide) h (fun h => ?_) (fun h => ?_)
    · exact q_sub [] rfl (hj46 σ10 h)
    · refine q_iload_n C dX6_unlike_16 rfl 3 rfl ?_
      refine q_callSi C (rm := rmX6_isEvening) (As := [.int a3]) (rest := []) (fun r9 σ9 h9 => kX6_isEvening l D ad cy X A zs σ10 a3 r9 σ9 h9) gX6_unlike_X6_isEvening rfl rfl rfl hyX6_isEvening ⟨Nat.le_of_ble_eq_true rfl, Nat.le_of_ble_eq_true rfl⟩ rfl rfl (Nat.le_of_ble_eq_true rfl) dX6_unlike_17 ⟨Nat.zero_le _, Nat.zero_le _⟩ h (fun r17 σ17 h => ?_)
      refine q_if_eq C (tgt := 46) dX6_unlike_20 (by decide) h (fun h => ?_) (fun h => ?_)
      · exact q_sub [] rfl (hj46 σ17 h)
      · refine q_iload C dX6_unlike_23 4 rfl ?_
        refine q_callSi C (rm := rmX6_isEvening) (As := [.int a4]) (rest := []) (fun r9 σ9 h9 => kX6_isEvening l D ad cy X A zs σ17 a4 r9 σ9 h9) gX6_unlike_X6_isEvening rfl rfl rfl hyX6_isEvening ⟨Nat.le_of_ble_eq_true rfl, Nat.le_of_ble_eq_true rfl⟩ rfl rfl (Nat.le_of_ble_eq_true rfl) dX6_unlike_25 ⟨Nat.zero_le _, Nat.zero_le _⟩ h (fun r25 σ25 h => ?_)
        refine q_if_eq C (tgt := 46) dX6_unlike_28 (by decide) h (fun h => ?_) (fun h => ?_)
        · exact q_sub [] rfl (hj46 σ25 h)
        · refine q_iload_n C dX6_unlike_31 rfl 3 rfl ?_
          refine q_iload C dX6_unlike_32 4 rfl ?_
          refine q_icmp_gt C (tgt := 46) dX6_unlike_34 (by decide) h (fun h => ?_) (fun h => ?_)
          · exact q_sub [] rfl (hj46 σ25 h)
          · refine q_aload_n C dX6_unlike_37 rfl 0 rfl ?_
            refine q_iload C dX6_unlike_38 5 rfl ?_
            refine q_callVi C (rm := rmX6_isKnown) (As := [.int a5]) (rest := []) (id := 0) (ci := 6) (fun r9 σ9 h9 => kX6_isKnown l D ad cy X A zs σ25 a5 r9 σ9 h9) gX6_unlike_X6_isKnown rfl rfl rfl hyX6_isKnown ⟨Nat.le_of_ble_eq_true rfl, Nat.le_of_ble_eq_true rfl⟩ (by decide) (ceM_0 ad cy _ _ _) rfl rfl rfl (Nat.le_of_ble_eq_true rfl) dX6_unlike_40 ⟨Nat.zero_le _, Nat.zero_le _⟩ h (fun r40 σ40 h => ?_)
            refine q_if_ne C (tgt := 48) dX6_unlike_43 (by decide) h (fun h => ?_) (fun h => ?_)
            · refine q_aload_n C dX6_unlike_48 rfl 0 rfl ?_
              refine q_iload C dX6_unlike_49 5 rfl ?_
              refine q_callVv C (rm := rmX6_goes) (As := [.int a5]) (rest := []) (id := 0) (ci := 6) (fun r9 σ9 h9 => kX6_goes l D ad cy X A zs σ40 a5 r9 σ9 h9) gX6_unlike_X6_goes rfl rfl rfl hyX6_goes ⟨Nat.le_of_ble_eq_true rfl, Nat.le_of_ble_eq_true rfl⟩ (by decide) (ceM_0 ad cy _ _ _) rfl rfl rfl (Nat.le_of_ble_eq_true rfl) dX6_unlike_51 ⟨Nat.zero_le _, Nat.zero_le _⟩ h (fun r51 σ51 h => ?_)
              refine q_iconst C (v := 0) dX6_unlike_54 (by decide) ?_
              refine q_istore C dX6_unlike_55 (by decide) (lv' := [(0, .ref (ad 0)), (1, .int a1), (2, .int a2), (3, .int a3), (4, .int a4), (5, .int a5), (6, .int (0 : Int32))]) rfl ?_
              refine q_iload_n C dX6_unlike_57 rfl 3 rfl ?_
              refine q_istore C dX6_unlike_58 (by decide) (lv' := [(0, .ref (ad 0)), (1, .int a1), (2, .int a2), (3, .int a3), (4, .int a4), (5, .int a5), (6, .int (0 : Int32)), (7, .int a3)]) rfl ?_
              exact q_sub [0, 1, 2, 4, 6, 7] rfl ((kX6_unlike_L C r0 σ0 100000) (0 : Int32) a3 σ51 h)
            · exact q_sub [] rfl (hj46 σ40 h)
abbrev rmX6_changed : Room := { frames := 7, cells := 0, slots := 0, locals := 177 }
theorem hyX6_changed : yX6_changed.cls = RX6 ∧ yX6_changed.cls ≠ "java/lang/invoke/MethodHandle" ∧ yX6_changed.cls ≠ "java/lang/invoke/VarHandle" ∧ (parseMethodDescriptor yX6_changed.desc).map (fun d => d.parameters.length) = some 3 := by decide +kernel
theorem nX6_changed_X6 : ∀ w ∈ u_ws RX6 TX6 60, w ∈ wsX6_changed := fun w h => List.mem_cons_of_mem _ (List.mem_append_right _ h)
theorem hX6_changed_143 : Cond.fieldLink RX6 143 (TX6 59).1 (TX6 59).2.1 (TX6 59).2.2.1 ∈ wsX6_changed := by decide +kernel
def fX6_changed_L (a1 : Int32) (a2 : Int32) (a3 : Int32) : Nat → Nat → Int32 → St → Option (Int32 × St)
  | 0, _, _, _ => none
  | n + 1, lab, v4, σ => if lab = 0 then (if (15 : Int32) ≤ v4 then (qcall (fX6_goes σ a3) (fun _ σ63 => fX6_changed_L a1 a2 a3 n 1 (1 : Int32) σ63)) else (qcall (fX6_beginOf σ a1 v4) (fun r51 σ51 => qix v4 16 (qlet (sI σ51 41 v4.toNatClampNeg r51) (fun σ54 => qlet (v4 + (1 : Int32)) (fun x55 => fX6_changed_L a1 a2 a3 n 0 x55 σ54)))))) else (if (15 : Int32) ≤ v4 then (some ((-1 : Int32), σ)) else (qcall (fX6_beginOf σ a1 v4) (fun r80 σ80 => qix v4 16 (if r80 = (σ80.1 41 v4.toNatClampNeg) then (qlet (v4 + (1 : Int32)) (fun x96 => fX6_changed_L a1 a2 a3 n 1 x96 σ80)) else (some (v4, σ80))))))
def fX6_changed (σ : St) (a1 : Int32) (a2 : Int32) (a3 : Int32) : Option (Int32 × St) := qcall (fX6_isLand σ a1) (fun r2 σ2 => qlet (fun (y24 : St) => (some ((-1 : Int32), y24))) (fun j24 => (if r2 = (0 : Int32) then (j24 σ2) else (qcall (fX6_isKnown σ2 a2) (fun r10 σ10 => if r10 = (0 : Int32) then (j24 σ10) else (qcall (fX6_isKnown σ10 a3) (fun r18 σ18 => if r18 = (0 : Int32) then (j24 σ18) else (qcall (fX6_goes σ18 a2) (fun _ σ28 => fX6_changed_L a1 a2 a3 100000 0 (1 : Int32) σ28)))))))))
set_option maxHeartbeats 4000000 in
set_option maxRecDepth 100000 in
theorem kX6_changed_L {ad : Nat → Nat} {cy : Nat → ClassId} {X : va_W} {A : Nat → Prop} {D : va_G} {zs : Nat × Nat × Option Nat} {p : Program} {l : Launch} {e : Env} {s : State} {m : MethodId} {args : Array Value} {below : List Frame} {meth : Method} {c : Code} {a1 : Int32} {a2 : Int32} {a3 : Int32} (C : qC ceM 42 ad cy X A D zs cX6_changed 5 RX6 wsX6_changed p s m args meth c (some .int)) (r0 : Int32) (σ0 : St) (n : Nat) : (∀ (v4 : Int32) (σ : St), fX6_changed_L a1 a2 a3 n 0 v4 σ = some (r0, σ0) → qVi ceM 42 ad cy X A D p l e (headSpec wsX6_changed rmX6_changed).room s m args below meth c 5 r0 σ0 34 [(0, .ref (ad 0)), (1, .int a1), (3, .int a3), (4, .int v4)] [] σ) ∧ (∀ (v4 : Int32) (σ : St), fX6_changed_L a1 a2 a3 n 1 v4 σ = some (r0, σ0) → qVi ceM 42 ad cy X A D p l e (headSpec wsX6_changed rmX6_changed).room s m args below meth c 5 r0 σ0 69 [(0, .ref (ad 0)), (1, .int a1), (4, .int v4)] [] σ) := by
  induction n with
  | zero =>
    refine ⟨?_, ?_⟩
    · intro v4 σ h; cases h
    · intro v4 σ h; cases h
  | succ n ih =>
    refine ⟨?_, ?_⟩
    · intro v4 σ h
      rw [fX6_changed_L] at h
      rw [if_pos rfl] at h
      refine q_iload C dX6_changed_34 3 rfl ?_
      refine q_bipush C (v := 15) dX6_changed_36 (by decide) ?_
      refine q_icmp_ge C (tgt := 61) dX6_changed_38 (by decide) h (fun h => ?_) (fun h => ?_)
      · refine q_aload_n C dX6_changed_61 rfl 0 rfl ?_
        refine q_iload_n C dX6_changed_62 rfl 2 rfl ?_
        refine q_callVv C (rm := rmX6_goes) (As := [.int a3]) (rest := []) (id := 0) (ci := 6) (fun r9 σ9 h9 => kX6_goes l D ad cy X A zs σ a3 r9 σ9 h9) gX6_changed_X6_goes rfl rfl rfl hyX6_goes ⟨Nat.le_of_ble_eq_true rfl, Nat.le_of_ble_eq_true rfl⟩ (by decide) (ceM_0 ad cy _ _ _) rfl rfl rfl (Nat.le_of_ble_eq_true rfl) dX6_changed_63 ⟨Nat.zero_le _, Nat.zero_le _⟩ h (fun r63 σ63 h => ?_)
        refine q_iconst C (v := 1) dX6_changed_66 (by decide) ?_
        refine q_istore C dX6_changed_67 (by decide) (lv' := [(0, .ref (ad 0)), (1, .int a1), (3, .int a3), (4, .int (1 : Int32))]) rfl ?_
        exact q_sub [0, 1, 3] rfl (ih.2 (1 : Int32) σ63 h)
      · refine q_aload_n C dX6_changed_41 rfl 0 rfl ?_
        refine q_get C (Cn := RX6) (T := TX6) (Nf := 60) (ci := 6) (id := 0) (k := 59) (v := .ref (ad 41)) nX6_changed_X6 (by decide) (ceM_0 ad cy _ _ _) rfl (by decide) rfl hX6_changed_143 dX6_changed_42 ?_
        refine q_iload C dX6_changed_45 3 rfl ?_
        refine q_aload_n C dX6_changed_47 rfl 0 rfl ?_
        refine q_iload_n C dX6_changed_48 rfl 1 rfl ?_
        refine q_iload C dX6_changed_49 3 rfl ?_
        refine q_callVi C (rm := rmX6_beginOf) (As := [.int a1, .int v4]) (rest := [.int v4, .ref (ad 41)]) (id := 0) (ci := 6) (fun r9 σ9 h9 => kX6_beginOf l D ad cy X A zs σ a1 v4 r9 σ9 h9) gX6_changed_X6_beginOf rfl rfl rfl hyX6_beginOf ⟨Nat.le_of_ble_eq_true rfl, Nat.le_of_ble_eq_true rfl⟩ (by decide) (ceM_0 ad cy _ _ _) rfl rfl rfl (Nat.le_of_ble_eq_true rfl) dX6_changed_51 ⟨Nat.zero_le _, Nat.zero_le _⟩ h (fun r51 σ51 h => ?_)
        refine q_iast C (id := 41) (by decide) (fun f g => ceM_41 ad cy _ f g) dX6_changed_54 h (fun σ54 h => ?_)
        refine q_iincL C dX6_changed_55 3 rfl (by decide) (nv := 1) (by decide) h (lw := fun x55 => [(0, .ref (ad 0)), (1, .int a1), (3, .int a3), (4, .int x55)]) (fun _ => rfl) (fun x55 h => ?_)
        refine q_goto C (tgt := 34) dX6_changed_58 (by decide) ?_
        exact q_sub [0, 1, 2, 3] rfl (ih.1 x55 σ54 h)
    · intro v4 σ h
      rw [fX6_changed_L] at h
      rw [if_neg (by decide)] at h
      refine q_iload C dX6_changed_69 2 rfl ?_
      refine q_bipush C (v := 15) dX6_changed_71 (by decide) ?_
      refine q_icmp_ge C (tgt := 102) dX6_changed_73 (by decide) h (fun h => ?_) (fun h => ?_)
      · refine q_iconst C (v := -1) dX6_changed_102 (by decide) ?_
        exact q_iret C rfl dX6_changed_103 h
      · refine q_aload_n C dX6_changed_76 rfl 0 rfl ?_
        refine q_iload_n C dX6_changed_77 rfl 1 rfl ?_
        refine q_iload C dX6_changed_78 2 rfl ?_
        refine q_callVi C (rm := rmX6_beginOf) (As := [.int a1, .int v4]) (rest := []) (id := 0) (ci := 6) (fun r9 σ9 h9 => kX6_beginOf l D ad cy X A zs σ a1 v4 r9 σ9 h9) gX6_changed_X6_beginOf rfl rfl rfl hyX6_beginOf ⟨Nat.le_of_ble_eq_true rfl, Nat.le_of_ble_eq_true rfl⟩ (by decide) (ceM_0 ad cy _ _ _) rfl rfl rfl (Nat.le_of_ble_eq_true rfl) dX6_changed_80 ⟨Nat.zero_le _, Nat.zero_le _⟩ h (fun r80 σ80 h => ?_)
        refine q_aload_n C dX6_changed_83 rfl 0 rfl ?_
        refine q_get C (Cn := RX6) (T := TX6) (Nf := 60) (ci := 6) (id := 0) (k := 59) (v := .ref (ad 41)) nX6_changed_X6 (by decide) (ceM_0 ad cy _ _ _) rfl (by decide) rfl hX6_changed_143 dX6_changed_84 ?_
        refine q_iload C dX6_changed_87 2 rfl ?_
        refine q_iald C (id := 41) (by decide) (ceM_41 ad cy _ _ _) dX6_changed_89 h (fun h => ?_)
        refine q_icmp_eq C (tgt := 96) dX6_changed_90 (by decide) h (fun h => ?_) (fun h => ?_)
        · refine q_iincL C dX6_changed_96 2 rfl (by decide) (nv := 1) (by decide) h (lw := fun x96 => [(0, .ref (ad 0)), (1, .int a1), (4, .int x96)]) (fun _ => rfl) (fun x96 h => ?_)
          refine q_goto C (tgt := 69) dX6_changed_99 (by decide) ?_
          exact q_sub [0, 1, 2] rfl (ih.2 x96 σ80 h)
        · refine q_iload C dX6_changed_93 2 rfl ?_
          exact q_iret C rfl dX6_changed_95 h
set_option maxHeartbeats 4000000 in
set_option maxRecDepth 100000 in
theorem kX6_changed (l : Launch) (D : va_G) (ad : Nat → Nat) (cy : Nat → ClassId) (X : va_W) (A : Nat → Prop) (zs : Nat × Nat × Option Nat) (σ : St) (a1 : Int32) (a2 : Int32) (a3 : Int32) (r0 : Int32) (σ0 : St) (h : fX6_changed σ a1 a2 a3 = some (r0, σ0)) : Met l yX6_changed wsX6_changed rmX6_changed (qPc ceM 42 ad cy X A D zs [.ref (ad 0), .int a1, .int a2, .int a3] σ) (qQi ceM 42 ad cy X A D r0 σ0) 0 0 A := by
  refine Met.ofW (cc := cX6_changed) (maxL := 5) (ret := (some .int)) (by decide) rfl ?_
  intro p e s m args below meth c s₁ B hml hv
  obtain ⟨ha, hP, hK, hE, hD⟩ := hv
  have C : qC ceM 42 ad cy X A D zs cX6_changed 5 RX6 wsX6_changed p s m args meth c (some .int) := ⟨B.exec, B.bytes, hml, findClass_of_methodNamed B.named, atoms_spec (ws := wsX6_changed) B.pre, hK, hD, B.returns, B.notSynchronized, hE⟩
  rw [show entryFrame m args 5 = entryFrame m ([.ref (ad 0), .int a1, .int a2, .int a3] : List Value).toArray 5 by rw [ha]]
  refine q_entry (A := A) (Nat.le_of_ble_eq_true rfl) hP (lv := [(0, .ref (ad 0)), (1, .int a1), (2, .int a2), (3, .int a3)]) rfl ?_
  unfold fX6_changed at h
  refine q_aload_n C dX6_changed_0 rfl 0 rfl ?_
  refine q_iload_n C dX6_changed_1 rfl 1 rfl ?_
  refine q_callVi C (rm := rmX6_isLand) (As := [.int a1]) (rest := []) (id := 0) (ci := 6) (fun r9 σ9 h9 => kX6_isLand l D ad cy X A zs σ a1 r9 σ9 h9) gX6_changed_X6_isLand rfl rfl rfl hyX6_isLand ⟨Nat.le_of_ble_eq_true rfl, Nat.le_of_ble_eq_true rfl⟩ (by decide) (ceM_0 ad cy _ _ _) rfl rfl rfl (Nat.le_of_ble_eq_true rfl) dX6_changed_2 ⟨Nat.zero_le _, Nat.zero_le _⟩ h (fun r2 σ2 h => ?_)
  refine q_join (G := fun (y24 : St) => qVi ceM 42 ad cy X A D p l e (headSpec wsX6_changed rmX6_changed).room s m args below meth c 5 r0 σ0 24 [] [] y24) h (fun y24 h => ?_) (fun j24 hj24 h => ?_)
  · refine q_iconst C (v := -1) dX6_changed_24 (by decide) ?_
    exact q_iret C rfl dX6_changed_25 h
  refine q_if_eq C (tgt := 24) dX6_changed_5 (by decide) h (fun h => ?_) (fun h => ?_)
  · exact q_sub [] rfl (hj24 σ2 h)
  · refine q_aload_n C dX6_changed_8 rfl 0 rfl ?_
    refine q_iload_n C dX6_changed_9 rfl 2 rfl ?_
    refine q_callVi C (rm := rmX6_isKnown) (As := [.int a2]) (rest := []) (id := 0) (ci := 6) (fun r9 σ9 h9 => kX6_isKnown l D ad cy X A zs σ2 a2 r9 σ9 h9) gX6_changed_X6_isKnown rfl rfl rfl hyX6_isKnown ⟨Nat.le_of_ble_eq_true rfl, Nat.le_of_ble_eq_true rfl⟩ (by decide) (ceM_0 ad cy _ _ _) rfl rfl rfl (Nat.le_of_ble_eq_true rfl) dX6_changed_10 ⟨Nat.zero_le _, Nat.zero_le _⟩ h (fun r10 σ10 h => ?_)
    refine q_if_eq C (tgt := 24) dX6_changed_13 (by decide) h (fun h => ?_) (fun h => ?_)
    · exact q_sub [] rfl (hj24 σ10 h)
    · refine q_aload_n C dX6_changed_16 rfl 0 rfl ?_
      refine q_iload_n C dX6_changed_17 rfl 3 rfl ?_
      refine q_callVi C (rm := rmX6_isKnown) (As := [.int a3]) (rest := []) (id := 0) (ci := 6) (fun r9 σ9 h9 => kX6_isKnown l D ad cy X A zs σ10 a3 r9 σ9 h9) gX6_changed_X6_isKnown rfl rfl rfl hyX6_isKnown ⟨Nat.le_of_ble_eq_true rfl, Nat.le_of_ble_eq_true rfl⟩ (by decide) (ceM_0 ad cy _ _ _) rfl rfl rfl (Nat.le_of_ble_eq_true rfl) dX6_changed_18 ⟨Nat.zero_le _, Nat.zero_le _⟩ h (fun r18 σ18 h => ?_)
      refine q_if_ne C (tgt := 26) dX6_changed_21 (by decide) h (fun h => ?_) (fun h => ?_)
      · refine q_aload_n C dX6_changed_26 rfl 0 rfl ?_
        refine q_iload_n C dX6_changed_27 rfl 2 rfl ?_
        refine q_callVv C (rm := rmX6_goes) (As := [.int a2]) (rest := []) (id := 0) (ci := 6) (fun r9 σ9 h9 => kX6_goes l D ad cy X A zs σ18 a2 r9 σ9 h9) gX6_changed_X6_goes rfl rfl rfl hyX6_goes ⟨Nat.le_of_ble_eq_true rfl, Nat.le_of_ble_eq_true rfl⟩ (by decide) (ceM_0 ad cy _ _ _) rfl rfl rfl (Nat.le_of_ble_eq_true rfl) dX6_changed_28 ⟨Nat.zero_le _, Nat.zero_le _⟩ h (fun r28 σ28 h => ?_)
        refine q_iconst C (v := 1) dX6_changed_31 (by decide) ?_
        refine q_istore C dX6_changed_32 (by decide) (lv' := [(0, .ref (ad 0)), (1, .int a1), (2, .int a2), (3, .int a3), (4, .int (1 : Int32))]) rfl ?_
        exact q_sub [0, 1, 3, 4] rfl ((kX6_changed_L C r0 σ0 100000).1 (1 : Int32) σ28 h)
      · exact q_sub [] rfl (hj24 σ18 h)
abbrev rmX6_count : Room := { frames := 0, cells := 0, slots := 0, locals := 0 }
theorem hyX6_count : yX6_count.cls = RX6 ∧ yX6_count.cls ≠ "java/lang/invoke/MethodHandle" ∧ yX6_count.cls ≠ "java/lang/invoke/VarHandle" ∧ (parseMethodDescriptor yX6_count.desc).map (fun d => d.parameters.length) = some 1 := by decide +kernel
theorem nX6_count_X6 : ∀ w ∈ u_ws RX6 TX6 60, w ∈ wsX6_count := by decide +kernel
theorem hX6_count_150 : Cond.fieldLink RX6 150 (TX6 2).1 (TX6 2).2.1 (TX6 2).2.2.1 ∈ wsX6_count := by decide +kernel
theorem hX6_count_250 : Cond.fieldLink RX6 250 (TX6 37).1 (TX6 37).2.1 (TX6 37).2.2.1 ∈ wsX6_count := by decide +kernel
theorem hX6_count_43 : Cond.fieldLink RX6 43 (TX6 20).1 (TX6 20).2.1 (TX6 20).2.2.1 ∈ wsX6_count := by decide +kernel
theorem hX6_count_40 : Cond.fieldLink RX6 40 (TX6 18).1 (TX6 18).2.1 (TX6 18).2.2.1 ∈ wsX6_count := by decide +kernel
theorem hX6_count_256 : Cond.fieldLink RX6 256 (TX6 45).1 (TX6 45).2.1 (TX6 45).2.2.1 ∈ wsX6_count := by decide +kernel
theorem hX6_count_253 : Cond.fieldLink RX6 253 (TX6 43).1 (TX6 43).2.1 (TX6 43).2.2.1 ∈ wsX6_count := by decide +kernel
theorem hX6_count_259 : Cond.fieldLink RX6 259 (TX6 35).1 (TX6 35).2.1 (TX6 35).2.2.1 ∈ wsX6_count := by decide +kernel
def fX6_count_L (a1 : Int32) : Nat → Int32 → Int32 → St → Option (Int32 × St)
  | 0, _, _, _ => none
  | n + 1, v2, v3, σ => if (σ.1 0 37) ≤ v3 then (some (v2, σ)) else (qix v3 6 (qix (((2 : Int32) * v3) + (σ.1 8 v3.toNatClampNeg)) 12 (qlet (v2 + (σ.1 9 (((2 : Int32) * v3) + (σ.1 8 v3.toNatClampNeg)).toNatClampNeg)) (fun x89 => qlet (v3 + (1 : Int32)) (fun x90 => fX6_count_L a1 n x89 x90 σ)))))
def fX6_count (σ : St) (a1 : Int32) : Option (Int32 × St) := if a1 = (0 : Int32) then (some ((σ.1 0 37), σ)) else (if a1 = (1 : Int32) then (some ((σ.1 0 35), σ)) else (if a1 = (2 : Int32) then (some ((σ.1 0 43), σ)) else (if a1 = (3 : Int32) then (some ((σ.1 0 45), σ)) else (if a1 = (4 : Int32) then (fX6_count_L a1 100000 (0 : Int32) (0 : Int32) σ) else (if a1 = (5 : Int32) then (some ((σ.1 0 2), σ)) else (some ((-1 : Int32), σ)))))))
set_option maxHeartbeats 4000000 in
set_option maxRecDepth 100000 in
theorem kX6_count_L {ad : Nat → Nat} {cy : Nat → ClassId} {X : va_W} {A : Nat → Prop} {D : va_G} {zs : Nat × Nat × Option Nat} {p : Program} {l : Launch} {e : Env} {s : State} {m : MethodId} {args : Array Value} {below : List Frame} {meth : Method} {c : Code} {a1 : Int32} (C : qC ceM 42 ad cy X A D zs cX6_count 4 RX6 wsX6_count p s m args meth c (some .int)) (r0 : Int32) (σ0 : St) (n : Nat) : (∀ (v2 : Int32) (v3 : Int32) (σ : St), fX6_count_L a1 n v2 v3 σ = some (r0, σ0) → qVi ceM 42 ad cy X A D p l e (headSpec wsX6_count rmX6_count).room s m args below meth c 4 r0 σ0 64 [(0, .ref (ad 0)), (2, .int v2), (3, .int v3)] [] σ) := by
  induction n with
  | zero =>
    intro v2 v3 σ h; cases h
  | succ n ih =>
    intro v2 v3 σ h
    rw [fX6_count_L] at h
    refine q_iload_n C dX6_count_64 rfl 2 rfl ?_
    refine q_aload_n C dX6_count_65 rfl 0 rfl ?_
    refine q_get C (Cn := RX6) (T := TX6) (Nf := 60) (ci := 6) (id := 0) (k := 37) (v := .int (σ.1 0 37)) nX6_count_X6 (by decide) (ceM_0 ad cy _ _ _) rfl (by decide) rfl hX6_count_250 dX6_count_66 ?_
    refine q_icmp_ge C (tgt := 96) dX6_count_69 (by decide) h (fun h => ?_) (fun h => ?_)
    · refine q_iload_n C dX6_count_96 rfl 1 rfl ?_
      exact q_iret C rfl dX6_count_97 h
    · refine q_iload_n C dX6_count_72 rfl 1 rfl ?_
      refine q_aload_n C dX6_count_73 rfl 0 rfl ?_
      refine q_get C (Cn := RX6) (T := TX6) (Nf := 60) (ci := 6) (id := 0) (k := 20) (v := .ref (ad 9)) nX6_count_X6 (by decide) (ceM_0 ad cy _ _ _) rfl (by decide) rfl hX6_count_43 dX6_count_74 ?_
      refine q_iconst C (v := 2) dX6_count_77 (by decide) ?_
      refine q_iload_n C dX6_count_78 rfl 2 rfl ?_
      refine q_imul C dX6_count_79 ?_
      refine q_aload_n C dX6_count_80 rfl 0 rfl ?_
      refine q_get C (Cn := RX6) (T := TX6) (Nf := 60) (ci := 6) (id := 0) (k := 18) (v := .ref (ad 8)) nX6_count_X6 (by decide) (ceM_0 ad cy _ _ _) rfl (by decide) rfl hX6_count_40 dX6_count_81 ?_
      refine q_iload_n C dX6_count_84 rfl 2 rfl ?_
      refine q_iald C (id := 8) (by decide) (ceM_8 ad cy _ _ _) dX6_count_85 h (fun h => ?_)
      refine q_iadd C dX6_count_86 ?_
      refine q_iald C (id := 9) (by decide) (ceM_9 ad cy _ _ _) dX6_count_87 h (fun h => ?_)
      refine q_iadd C dX6_count_88 ?_
      refine q_istore_nL C dX6_count_89 rfl (by decide) h (lw := fun x89 => [(0, .ref (ad 0)), (2, .int x89), (3, .int v3)]) (fun _ => rfl) (fun x89 h => ?_)
      refine q_iincL C dX6_count_90 2 rfl (by decide) (nv := 1) (by decide) h (lw := fun x90 => [(0, .ref (ad 0)), (2, .int x89), (3, .int x90)]) (fun _ => rfl) (fun x90 h => ?_)
      refine q_goto C (tgt := 64) dX6_count_93 (by decide) ?_
      exact q_sub [0, 1, 2] rfl (ih x89 x90 σ h)
set_option maxHeartbeats 4000000 in
set_option maxRecDepth 100000 in
theorem kX6_count (l : Launch) (D : va_G) (ad : Nat → Nat) (cy : Nat → ClassId) (X : va_W) (A : Nat → Prop) (zs : Nat × Nat × Option Nat) (σ : St) (a1 : Int32) (r0 : Int32) (σ0 : St) (h : fX6_count σ a1 = some (r0, σ0)) : Met l yX6_count wsX6_count rmX6_count (qPc ceM 42 ad cy X A D zs [.ref (ad 0), .int a1] σ) (qQi ceM 42 ad cy X A D r0 σ0) 0 0 A := by
  refine Met.ofW (cc := cX6_count) (maxL := 4) (ret := (some .int)) (by decide) rfl ?_
  intro p e s m args below meth c s₁ B hml hv
  obtain ⟨ha, hP, hK, hE, hD⟩ := hv
  have C : qC ceM 42 ad cy X A D zs cX6_count 4 RX6 wsX6_count p s m args meth c (some .int) := ⟨B.exec, B.bytes, hml, findClass_of_methodNamed B.named, atoms_spec (ws := wsX6_count) B.pre, hK, hD, B.returns, B.notSynchronized, hE⟩
  rw [show entryFrame m args 4 = entryFrame m ([.ref (ad 0), .int a1] : List Value).toArray 4 by rw [ha]]
  refine q_entry (A := A) (Nat.le_of_ble_eq_true rfl) hP (lv := [(0, .ref (ad 0)), (1, .int a1)]) rfl ?_
  unfold fX6_count at h
  refine q_iload_n C dX6_count_0 rfl 1 rfl ?_
  refine q_swc h (fun e1_0 h => ?_) (fun n1_0 h => ?_)
  · refine q_tabIn C dX6_count_1 (z := 0) (tgt := 40) (by rw [e1_0]; decide) (by decide) (by decide) rfl (by decide) ?_
    refine q_aload_n C dX6_count_40 rfl 0 rfl ?_
    refine q_get C (Cn := RX6) (T := TX6) (Nf := 60) (ci := 6) (id := 0) (k := 37) (v := .int (σ.1 0 37)) nX6_count_X6 (by decide) (ceM_0 ad cy _ _ _) rfl (by decide) rfl hX6_count_250 dX6_count_41 ?_
    exact q_iret C rfl dX6_count_44 h
  refine q_swc h (fun e1_1 h => ?_) (fun n1_1 h => ?_)
  · refine q_tabIn C dX6_count_1 (z := 1) (tgt := 45) (by rw [e1_1]; decide) (by decide) (by decide) rfl (by decide) ?_
    refine q_aload_n C dX6_count_45 rfl 0 rfl ?_
    refine q_get C (Cn := RX6) (T := TX6) (Nf := 60) (ci := 6) (id := 0) (k := 35) (v := .int (σ.1 0 35)) nX6_count_X6 (by decide) (ceM_0 ad cy _ _ _) rfl (by decide) rfl hX6_count_259 dX6_count_46 ?_
    exact q_iret C rfl dX6_count_49 h
  refine q_swc h (fun e1_2 h => ?_) (fun n1_2 h => ?_)
  · refine q_tabIn C dX6_count_1 (z := 2) (tgt := 50) (by rw [e1_2]; decide) (by decide) (by decide) rfl (by decide) ?_
    refine q_aload_n C dX6_count_50 rfl 0 rfl ?_
    refine q_get C (Cn := RX6) (T := TX6) (Nf := 60) (ci := 6) (id := 0) (k := 43) (v := .int (σ.1 0 43)) nX6_count_X6 (by decide) (ceM_0 ad cy _ _ _) rfl (by decide) rfl hX6_count_253 dX6_count_51 ?_
    exact q_iret C rfl dX6_count_54 h
  refine q_swc h (fun e1_3 h => ?_) (fun n1_3 h => ?_)
  · refine q_tabIn C dX6_count_1 (z := 3) (tgt := 55) (by rw [e1_3]; decide) (by decide) (by decide) rfl (by decide) ?_
    refine q_aload_n C dX6_count_55 rfl 0 rfl ?_
    refine q_get C (Cn := RX6) (T := TX6) (Nf := 60) (ci := 6) (id := 0) (k := 45) (v := .int (σ.1 0 45)) nX6_count_X6 (by decide) (ceM_0 ad cy _ _ _) rfl (by decide) rfl hX6_count_256 dX6_count_56 ?_
    exact q_iret C rfl dX6_count_59 h
  refine q_swc h (fun e1_4 h => ?_) (fun n1_4 h => ?_)
  · refine q_tabIn C dX6_count_1 (z := 4) (tgt := 60) (by rw [e1_4]; decide) (by decide) (by decide) rfl (by decide) ?_
    refine q_iconst C (v := 0) dX6_count_60 (by decide) ?_
    refine q_istore_n C dX6_count_61 rfl (by decide) (lv' := [(0, .ref (ad 0)), (1, .int a1), (2, .int (0 : Int32))]) rfl ?_
    refine q_iconst C (v := 0) dX6_count_62 (by decide) ?_
    refine q_istore_n C dX6_count_63 rfl (by decide) (lv' := [(0, .ref (ad 0)), (1, .int a1), (2, .int (0 : Int32)), (3, .int (0 : Int32))]) rfl ?_
    exact q_sub [0, 2, 3] rfl ((kX6_count_L C r0 σ0 100000) (0 : Int32) (0 : Int32) σ h)
  refine q_swc h (fun e1_5 h => ?_) (fun n1_5 h => ?_)
  · refine q_tabIn C dX6_count_1 (z := 5) (tgt := 98) (by rw [e1_5]; decide) (by decide) (by decide) rfl (by decide) ?_
    refine q_aload_n C dX6_count_98 rfl 0 rfl ?_
    refine q_get C (Cn := RX6) (T := TX6) (Nf := 60) (ci := 6) (id := 0) (k := 2) (v := .int (σ.1 0 2)) nX6_count_X6 (by decide) (ceM_0 ad cy _ _ _) rfl (by decide) rfl hX6_count_150 dX6_count_99 ?_
    exact q_iret C rfl dX6_count_102 h
  have hdf1 : qVi ceM 42 ad cy X A D p l e (headSpec wsX6_count rmX6_count).room s m args below meth c 4 r0 σ0 103 [(0, .ref (ad 0)), (1, .int a1)] [] σ := by
    refine q_iconst C (v := -1) dX6_count_103 (by decide) ?_
    exact q_iret C rfl dX6_count_104 h
  have zn1_0 := q_neI (z := 0) n1_0 (by decide)
  have zn1_1 := q_neI (z := 1) n1_1 (by decide)
  have zn1_2 := q_neI (z := 2) n1_2 (by decide)
  have zn1_3 := q_neI (z := 3) n1_3 (by decide)
  have zn1_4 := q_neI (z := 4) n1_4 (by decide)
  have zn1_5 := q_neI (z := 5) n1_5 (by decide)
  rcases (show (a1).toInt < 0 ∨ 5 < (a1).toInt by omega) with q | q
  · exact q_tabOut C dX6_count_1 (tgt := 103) (Or.inl q) (by decide) hdf1
  · exact q_tabOut C dX6_count_1 (tgt := 103) (Or.inr q) (by decide) hdf1
