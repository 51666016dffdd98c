abbrev rmX0_isWitness : Room := { frames := 0, cells := 0, slots := 0, locals := 0 }
theorem hyX0_isWitness : yX0_isWitness.cls = RX0 ∧ yX0_isWitness.cls ≠ "java/lang/invoke/MethodHandle" ∧ yX0_isWitness.cls ≠ "java/lang/invoke/VarHandle" ∧ (parseMethodDescriptor yX0_isWitness.desc).map (fun d => d.parameters.length) = some 1 := by decide +kernel
theorem nX0_isWitness_X0 : ∀ w ∈ u_ws RX0 TX0 9, w ∈ wsX0_isWitness := fun w h => List.mem_cons_of_mem _ (List.mem_append_right _ h)
theorem hX0_isWitness_29 : Cond.fieldLink RX0 29 (TX0 6).1 (TX0 6).2.1 (TX0 6).2.2.1 ∈ wsX0_isWitness := by decide +kernel
def fX0_isWitness (σ : St) (a1 : Int32) : Option (Int32 × St) := qlet (fun (y17 : Int32) => (qzz y17 (some (y17, σ)))) (fun j17 => (qlet (fun (y16 : Unit) => (j17 (0 : Int32))) (fun j16 => (if a1 < (0 : Int32) then (j16 ()) else (if (σ.1 21 6) ≤ a1 then (j16 ()) else (j17 (1 : Int32)))))))
set_option maxHeartbeats 4000000 in
set_option maxRecDepth 100000 in
theorem kX0_isWitness (l : Launch) (D : va_G) (ad : Nat → Nat) (cy : Nat → ClassId) (X : va_W) (A : Nat → Prop) (zs : Nat × Nat × Option Nat) (σ : St) (a1 : Int32) (r0 : Int32) (σ0 : St) (h : fX0_isWitness σ a1 = some (r0, σ0)) : Met l yX0_isWitness wsX0_isWitness rmX0_isWitness (qPc ceC 96 ad cy X A D zs [.ref (ad 21), .int a1] σ) (qQi ceC 96 ad cy X A D r0 σ0) 0 0 A := by
  refine Met.ofW (cc := cX0_isWitness) (maxL := 2) (ret := (some .boolean)) (by decide) rfl ?_
  intro p e s m args below meth c s₁ B hml hv
  obtain ⟨ha, hP, hK, hE, hD⟩ := hv
  have C : qC ceC 96 ad cy X A D zs cX0_isWitness 2 RX0 wsX0_isWitness p s m args meth c (some .boolean) := ⟨B.exec, B.bytes, hml, findClass_of_methodNamed B.named, atoms_spec (ws := wsX0_isWitness) B.pre, hK, hD, B.returns, B.notSynchronized, hE⟩
  rw [show entryFrame m args 2 = entryFrame m ([.ref (ad 21), .int a1] : List Value).toArray 2 by rw [ha]]
  refine q_entry (A := A) (Nat.le_of_ble_eq_true rfl) hP (lv := [(0, .ref (ad 21)), (1, .int a1)]) rfl ?_
  unfold fX0_isWitness at h
  refine q_iload_n C dX0_isWitness_0 rfl 1 rfl ?_
  refine q_join (G := fun (y17 : Int32) => qVi ceC 96 ad cy X A D p l e (headSpec wsX0_isWitness rmX0_isWitness).room s m args below meth c 2 r0 σ0 17 [] [.int y17] σ) h (fun y17 h => ?_) (fun j17 hj17 h => ?_)
  · exact q_zret C rfl dX0_isWitness_17 h
  refine q_join (G := fun (y16 : Unit) => qVi ceC 96 ad cy X A D p l e (headSpec wsX0_isWitness rmX0_isWitness).room s m args below meth c 2 r0 σ0 16 [] [] σ) h (fun y16 h => ?_) (fun j16 hj16 h => ?_)
  · refine q_iconst C (v := 0) dX0_isWitness_16 (by decide) ?_
    exact q_sub [] rfl (hj17 (0 : Int32) h)
  refine q_if_lt C (tgt := 16) dX0_isWitness_1 (by decide) h (fun h => ?_) (fun h => ?_)
  · exact q_sub [] rfl (hj16 () h)
  · refine q_iload_n C dX0_isWitness_4 rfl 1 rfl ?_
    refine q_aload_n C dX0_isWitness_5 rfl 0 rfl ?_
    refine q_get C (Cn := RX0) (T := TX0) (Nf := 9) (ci := 0) (id := 21) (k := 6) (v := .int (σ.1 21 6)) nX0_isWitness_X0 (by decide) (ceC_21 ad cy _ _ _) rfl (by decide) rfl hX0_isWitness_29 dX0_isWitness_6 ?_
    refine q_icmp_ge C (tgt := 16) dX0_isWitness_9 (by decide) h (fun h => ?_) (fun h => ?_)
    · exact q_sub [] rfl (hj16 () h)
    · refine q_iconst C (v := 1) dX0_isWitness_12 (by decide) ?_
      refine q_goto C (tgt := 17) dX0_isWitness_13 (by decide) ?_
      exact q_sub [] rfl (hj17 (1 : Int32) h)
abbrev rmX0_canBeKnownBy : Room := { frames := 0, cells := 0, slots := 0, locals := 0 }
theorem hyX0_canBeKnownBy : yX0_canBeKnownBy.cls = RX0 ∧ yX0_canBeKnownBy.cls ≠ "java/lang/invoke/MethodHandle" ∧ yX0_canBeKnownBy.cls ≠ "java/lang/invoke/VarHandle" ∧ (parseMethodDescriptor yX0_canBeKnownBy.desc).map (fun d => d.parameters.length) = some 1 := by decide +kernel
theorem nX0_canBeKnownBy_X0 : ∀ w ∈ u_ws RX0 TX0 9, w ∈ wsX0_canBeKnownBy := fun w h => List.mem_cons_of_mem _ (List.mem_append_right _ h)
theorem hX0_canBeKnownBy_33 : Cond.fieldLink RX0 33 (TX0 7).1 (TX0 7).2.1 (TX0 7).2.2.1 ∈ wsX0_canBeKnownBy := by decide +kernel
def fX0_canBeKnownBy (σ : St) (a1 : Int32) : Option (Int32 × St) := qlet (fun (y17 : Int32) => (qzz y17 (some (y17, σ)))) (fun j17 => (qlet (fun (y16 : Unit) => (j17 (0 : Int32))) (fun j16 => (if a1 < (0 : Int32) then (j16 ()) else (if (σ.1 21 7) < a1 then (j16 ()) else (j17 (1 : Int32)))))))
set_option maxHeartbeats 4000000 in
set_option maxRecDepth 100000 in
theorem kX0_canBeKnownBy (l : Launch) (D : va_G) (ad : Nat → Nat) (cy : Nat → ClassId) (X : va_W) (A : Nat → Prop) (zs : Nat × Nat × Option Nat) (σ : St) (a1 : Int32) (r0 : Int32) (σ0 : St) (h : fX0_canBeKnownBy σ a1 = some (r0, σ0)) : Met l yX0_canBeKnownBy wsX0_canBeKnownBy rmX0_canBeKnownBy (qPc ceC 96 ad cy X A D zs [.ref (ad 21), .int a1] σ) (qQi ceC 96 ad cy X A D r0 σ0) 0 0 A := by
  refine Met.ofW (cc := cX0_canBeKnownBy) (maxL := 2) (ret := (some .boolean)) (by decide) rfl ?_
  intro p e s m args below meth c s₁ B hml hv
  obtain ⟨ha, hP, hK, hE, hD⟩ := hv
  have C : qC ceC 96 ad cy X A D zs cX0_canBeKnownBy 2 RX0 wsX0_canBeKnownBy p s m args meth c (some .boolean) := ⟨B.exec, B.bytes, hml, findClass_of_methodNamed B.named, atoms_spec (ws := wsX0_canBeKnownBy) B.pre, hK, hD, B.returns, B.notSynchronized, hE⟩
  rw [show entryFrame m args 2 = entryFrame m ([.ref (ad 21), .int a1] : List Value).toArray 2 by rw [ha]]
  refine q_entry (A := A) (Nat.le_of_ble_eq_true rfl) hP (lv := [(0, .ref (ad 21)), (1, .int a1)]) rfl ?_
  unfold fX0_canBeKnownBy at h
  refine q_iload_n C dX0_canBeKnownBy_0 rfl 1 rfl ?_
  refine q_join (G := fun (y17 : Int32) => qVi ceC 96 ad cy X A D p l e (headSpec wsX0_canBeKnownBy rmX0_canBeKnownBy).room s m args below meth c 2 r0 σ0 17 [] [.int y17] σ) h (fun y17 h => ?_) (fun j17 hj17 h => ?_)
  · exact q_zret C rfl dX0_canBeKnownBy_17 h
  refine q_join (G := fun (y16 : Unit) => qVi ceC 96 ad cy X A D p l e (headSpec wsX0_canBeKnownBy rmX0_canBeKnownBy).room s m args below meth c 2 r0 σ0 16 [] [] σ) h (fun y16 h => ?_) (fun j16 hj16 h => ?_)
  · refine q_iconst C (v := 0) dX0_canBeKnownBy_16 (by decide) ?_
    exact q_sub [] rfl (hj17 (0 : Int32) h)
  refine q_if_lt C (tgt := 16) dX0_canBeKnownBy_1 (by decide) h (fun h => ?_) (fun h => ?_)
  · exact q_sub [] rfl (hj16 () h)
  · refine q_iload_n C dX0_canBeKnownBy_4 rfl 1 rfl ?_
    refine q_aload_n C dX0_canBeKnownBy_5 rfl 0 rfl ?_
    refine q_get C (Cn := RX0) (T := TX0) (Nf := 9) (ci := 0) (id := 21) (k := 7) (v := .int (σ.1 21 7)) nX0_canBeKnownBy_X0 (by decide) (ceC_21 ad cy _ _ _) rfl (by decide) rfl hX0_canBeKnownBy_33 dX0_canBeKnownBy_6 ?_
    refine q_icmp_gt C (tgt := 16) dX0_canBeKnownBy_9 (by decide) h (fun h => ?_) (fun h => ?_)
    · exact q_sub [] rfl (hj16 () h)
    · refine q_iconst C (v := 1) dX0_canBeKnownBy_12 (by decide) ?_
      refine q_goto C (tgt := 17) dX0_canBeKnownBy_13 (by decide) ?_
      exact q_sub [] rfl (hj17 (1 : Int32) h)
abbrev rmX0_addReport : Room := { frames := 0, cells := 0, slots := 0, locals := 0 }
theorem hyX0_addReport : yX0_addReport.cls = RX0 ∧ yX0_addReport.cls ≠ "java/lang/invoke/MethodHandle" ∧ yX0_addReport.cls ≠ "java/lang/invoke/VarHandle" ∧ (parseMethodDescriptor yX0_addReport.desc).map (fun d => d.parameters.length) = some 2 := by decide +kernel
theorem nX0_addReport_X0 : ∀ w ∈ u_ws RX0 TX0 9, w ∈ wsX0_addReport := by decide +kernel
theorem hX0_addReport_33 : Cond.fieldLink RX0 33 (TX0 7).1 (TX0 7).2.1 (TX0 7).2.2.1 ∈ wsX0_addReport := by decide +kernel
theorem hX0_addReport_23 : Cond.fieldLink RX0 23 (TX0 4).1 (TX0 4).2.1 (TX0 4).2.2.1 ∈ wsX0_addReport := by decide +kernel
theorem hX0_addReport_9 : Cond.fieldLink RX0 9 (TX0 1).1 (TX0 1).2.1 (TX0 1).2.2.1 ∈ wsX0_addReport := by decide +kernel
def fX0_addReport (σ : St) (a1 : Int32) (a2 : Int32) : Option (Int32 × St) := qlet (σ.1 21 7) (fun x4 => qix x4 300 (qlet (sI σ 31 x4.toNatClampNeg a1) (fun σ11 => qix x4 300 (qlet (sI σ11 22 x4.toNatClampNeg a2) (fun σ18 => qlet (sI σ18 21 7 ((σ18.1 21 7) + (1 : Int32))) (fun σ26 => some (x4, σ26)))))))
set_option maxHeartbeats 4000000 in
set_option maxRecDepth 100000 in
theorem kX0_addReport (l : Launch) (D : va_G) (ad : Nat → Nat) (cy : Nat → ClassId) (X : va_W) (A : Nat → Prop) (zs : Nat × Nat × Option Nat) (σ : St) (a1 : Int32) (a2 : Int32) (r0 : Int32) (σ0 : St) (h : fX0_addReport σ a1 a2 = some (r0, σ0)) : Met l yX0_addReport wsX0_addReport rmX0_addReport (qPc ceC 96 ad cy X A D zs [.ref (ad 21), .int a1, .int a2] σ) (qQi ceC 96 ad cy X A D r0 σ0) 0 0 A := by
  refine Met.ofW (cc := cX0_addReport) (maxL := 4) (ret := (some .int)) (by decide) rfl ?_
  intro p e s m args below meth c s₁ B hml hv
  obtain ⟨ha, hP, hK, hE, hD⟩ := hv
  have C : qC ceC 96 ad cy X A D zs cX0_addReport 4 RX0 wsX0_addReport p s m args meth c (some .int) := ⟨B.exec, B.bytes, hml, findClass_of_methodNamed B.named, atoms_spec (ws := wsX0_addReport) B.pre, hK, hD, B.returns, B.notSynchronized, hE⟩
  rw [show entryFrame m args 4 = entryFrame m ([.ref (ad 21), .int a1, .int a2] : List Value).toArray 4 by rw [ha]]
  refine q_entry (A := A) (Nat.le_of_ble_eq_true rfl) hP (lv := [(0, .ref (ad 21)), (1, .int a1), (2, .int a2)]) rfl ?_
  unfold fX0_addReport at h
  refine q_aload_n C dX0_addReport_0 rfl 0 rfl ?_
  refine q_get C (Cn := RX0) (T := TX0) (Nf := 9) (ci := 0) (id := 21) (k := 7) (v := .int (σ.1 21 7)) nX0_addReport_X0 (by decide) (ceC_21 ad cy _ _ _) rfl (by decide) rfl hX0_addReport_33 dX0_addReport_1 ?_
  refine q_istore_nL C dX0_addReport_4 rfl (by decide) h (lw := fun x4 => [(0, .ref (ad 21)), (1, .int a1), (2, .int a2), (3, .int x4)]) (fun _ => rfl) (fun x4 h => ?_)
  refine q_aload_n C dX0_addReport_5 rfl 0 rfl ?_
  refine q_get C (Cn := RX0) (T := TX0) (Nf := 9) (ci := 0) (id := 21) (k := 4) (v := .ref (ad 31)) nX0_addReport_X0 (by decide) (ceC_21 ad cy _ _ _) rfl (by decide) rfl hX0_addReport_23 dX0_addReport_6 ?_
  refine q_iload_n C dX0_addReport_9 rfl 3 rfl ?_
  refine q_iload_n C dX0_addReport_10 rfl 1 rfl ?_
  refine q_iast C (id := 31) (by decide) (fun f g => ceC_31 ad cy _ f g) dX0_addReport_11 h (fun σ11 h => ?_)
  refine q_aload_n C dX0_addReport_12 rfl 0 rfl ?_
  refine q_get C (Cn := RX0) (T := TX0) (Nf := 9) (ci := 0) (id := 21) (k := 1) (v := .ref (ad 22)) nX0_addReport_X0 (by decide) (ceC_21 ad cy _ _ _) rfl (by decide) rfl hX0_addReport_9 dX0_addReport_13 ?_
  refine q_iload_n C dX0_addReport_16 rfl 3 rfl ?_
  refine q_iload_n C dX0_addReport_17 rfl 2 rfl ?_
  refine q_iast C (id := 22) (by decide) (fun f g => ceC_22 ad cy _ f g) dX0_addReport_18 h (fun σ18 h => ?_)
  refine q_aload_n C dX0_addReport_19 rfl 0 rfl ?_
  refine q_dup C dX0_addReport_20 rfl ?_
  refine q_get C (Cn := RX0) (T := TX0) (Nf := 9) (ci := 0) (id := 21) (k := 7) (v := .int (σ18.1 21 7)) nX0_addReport_X0 (by decide) (ceC_21 ad cy _ _ _) rfl (by decide) rfl hX0_addReport_33 dX0_addReport_21 ?_
  refine q_iconst C (v := 1) dX0_addReport_24 (by decide) ?_
  refine q_iadd C dX0_addReport_25 ?_
  refine q_put C (Cn := RX0) (T := TX0) (ty0 := tyX0) (Nf := 9) (ci := 0) (id := 21) (k := 7) (y := 0) tyX0_ok nmX0 nX0_addReport_X0 (by decide) (ceC_21 ad cy _ _ _) (ceC_21 ad cy _ _ _) rfl (by decide) rfl (by decide +kernel) (Nat.le_of_ble_eq_true rfl) hX0_addReport_33 dX0_addReport_26 h (fun σ26 h => ?_)
  refine q_iload_n C dX0_addReport_29 rfl 3 rfl ?_
  exact q_iret C rfl dX0_addReport_30 h
abbrev rmX0_addCloud : Room := { frames := 0, cells := 0, slots := 0, locals := 0 }
theorem hyX0_addCloud : yX0_addCloud.cls = RX0 ∧ yX0_addCloud.cls ≠ "java/lang/invoke/MethodHandle" ∧ yX0_addCloud.cls ≠ "java/lang/invoke/VarHandle" ∧ (parseMethodDescriptor yX0_addCloud.desc).map (fun d => d.parameters.length) = some 2 := by decide +kernel
theorem nX0_addCloud_X0 : ∀ w ∈ u_ws RX0 TX0 9, w ∈ wsX0_addCloud := by decide +kernel
theorem hX0_addCloud_33 : Cond.fieldLink RX0 33 (TX0 7).1 (TX0 7).2.1 (TX0 7).2.2.1 ∈ wsX0_addCloud := by decide +kernel
theorem hX0_addCloud_23 : Cond.fieldLink RX0 23 (TX0 4).1 (TX0 4).2.1 (TX0 4).2.2.1 ∈ wsX0_addCloud := by decide +kernel
theorem hX0_addCloud_9 : Cond.fieldLink RX0 9 (TX0 1).1 (TX0 1).2.1 (TX0 1).2.2.1 ∈ wsX0_addCloud := by decide +kernel
theorem hX0_addCloud_17 : Cond.fieldLink RX0 17 (TX0 2).1 (TX0 2).2.1 (TX0 2).2.2.1 ∈ wsX0_addCloud := by decide +kernel
def fX0_addCloud (σ : St) (a1 : Int32) (a2 : Int32) : Option (Int32 × St) := qlet (σ.1 21 7) (fun x4 => qix x4 300 (qlet (sI σ 31 x4.toNatClampNeg (-1 : Int32)) (fun σ11 => qix x4 300 (qlet (sI σ11 22 x4.toNatClampNeg a2) (fun σ18 => qlet (sI σ18 21 7 ((σ18.1 21 7) + (1 : Int32))) (fun σ26 => qix a1 6 (qix a2 400 (qlet (fun (y52 : St) => (some (x4, y52))) (fun j52 => (if (σ26.1 (24 + a1.toNatClampNeg) a2.toNatClampNeg) = (0 : Int32) then (qix a1 6 (qix a2 400 (qlet (sI σ26 (24 + a1.toNatClampNeg) a2.toNatClampNeg (σ26.1 21 7)) (fun σ51 => j52 σ51)))) else (j52 σ26)))))))))))
set_option maxHeartbeats 4000000 in
set_option maxRecDepth 100000 in
theorem kX0_addCloud (l : Launch) (D : va_G) (ad : Nat → Nat) (cy : Nat → ClassId) (X : va_W) (A : Nat → Prop) (zs : Nat × Nat × Option Nat) (σ : St) (a1 : Int32) (a2 : Int32) (r0 : Int32) (σ0 : St) (h : fX0_addCloud σ a1 a2 = some (r0, σ0)) : Met l yX0_addCloud wsX0_addCloud rmX0_addCloud (qPc ceC 96 ad cy X A D zs [.ref (ad 21), .int a1, .int a2] σ) (qQi ceC 96 ad cy X A D r0 σ0) 0 0 A := by
  refine Met.ofW (cc := cX0_addCloud) (maxL := 4) (ret := (some .int)) (by decide) rfl ?_
  intro p e s m args below meth c s₁ B hml hv
  obtain ⟨ha, hP, hK, hE, hD⟩ := hv
  have C : qC ceC 96 ad cy X A D zs cX0_addCloud 4 RX0 wsX0_addCloud p s m args meth c (some .int) := ⟨B.exec, B.bytes, hml, findClass_of_methodNamed B.named, atoms_spec (ws := wsX0_addCloud) B.pre, hK, hD, B.returns, B.notSynchronized, hE⟩
  rw [show entryFrame m args 4 = entryFrame m ([.ref (ad 21), .int a1, .int a2] : List Value).toArray 4 by rw [ha]]
  refine q_entry (A := A) (Nat.le_of_ble_eq_true rfl) hP (lv := [(0, .ref (ad 21)), (1, .int a1), (2, .int a2)]) rfl ?_
  unfold fX0_addCloud at h
  refine q_aload_n C dX0_addCloud_0 rfl 0 rfl ?_
  refine q_get C (Cn := RX0) (T := TX0) (Nf := 9) (ci := 0) (id := 21) (k := 7) (v := .int (σ.1 21 7)) nX0_addCloud_X0 (by decide) (ceC_21 ad cy _ _ _) rfl (by decide) rfl hX0_addCloud_33 dX0_addCloud_1 ?_
  refine q_istore_nL C dX0_addCloud_4 rfl (by decide) h (lw := fun x4 => [(0, .ref (ad 21)), (1, .int a1), (2, .int a2), (3, .int x4)]) (fun _ => rfl) (fun x4 h => ?_)
  refine q_aload_n C dX0_addCloud_5 rfl 0 rfl ?_
  refine q_get C (Cn := RX0) (T := TX0) (Nf := 9) (ci := 0) (id := 21) (k := 4) (v := .ref (ad 31)) nX0_addCloud_X0 (by decide) (ceC_21 ad cy _ _ _) rfl (by decide) rfl hX0_addCloud_23 dX0_addCloud_6 ?_
  refine q_iload_n C dX0_addCloud_9 rfl 3 rfl ?_
  refine q_iconst C (v := -1) dX0_addCloud_10 (by decide) ?_
  refine q_iast C (id := 31) (by decide) (fun f g => ceC_31 ad cy _ f g) dX0_addCloud_11 h (fun σ11 h => ?_)
  refine q_aload_n C dX0_addCloud_12 rfl 0 rfl ?_
  refine q_get C (Cn := RX0) (T := TX0) (Nf := 9) (ci := 0) (id := 21) (k := 1) (v := .ref (ad 22)) nX0_addCloud_X0 (by decide) (ceC_21 ad cy _ _ _) rfl (by decide) rfl hX0_addCloud_9 dX0_addCloud_13 ?_
  refine q_iload_n C dX0_addCloud_16 rfl 3 rfl ?_
  refine q_iload_n C dX0_addCloud_17 rfl 2 rfl ?_
  refine q_iast C (id := 22) (by decide) (fun f g => ceC_22 ad cy _ f g) dX0_addCloud_18 h (fun σ18 h => ?_)
  refine q_aload_n C dX0_addCloud_19 rfl 0 rfl ?_
  refine q_dup C dX0_addCloud_20 rfl ?_
  refine q_get C (Cn := RX0) (T := TX0) (Nf := 9) (ci := 0) (id := 21) (k := 7) (v := .int (σ18.1 21 7)) nX0_addCloud_X0 (by decide) (ceC_21 ad cy _ _ _) rfl (by decide) rfl hX0_addCloud_33 dX0_addCloud_21 ?_
  refine q_iconst C (v := 1) dX0_addCloud_24 (by decide) ?_
  refine q_iadd C dX0_addCloud_25 ?_
  refine q_put C (Cn := RX0) (T := TX0) (ty0 := tyX0) (Nf := 9) (ci := 0) (id := 21) (k := 7) (y := 0) tyX0_ok nmX0 nX0_addCloud_X0 (by decide) (ceC_21 ad cy _ _ _) (ceC_21 ad cy _ _ _) rfl (by decide) rfl (by decide +kernel) (Nat.le_of_ble_eq_true rfl) hX0_addCloud_33 dX0_addCloud_26 h (fun σ26 h => ?_)
  refine q_aload_n C dX0_addCloud_29 rfl 0 rfl ?_
  refine q_get C (Cn := RX0) (T := TX0) (Nf := 9) (ci := 0) (id := 21) (k := 2) (v := .ref (ad 23)) nX0_addCloud_X0 (by decide) (ceC_21 ad cy _ _ _) rfl (by decide) rfl hX0_addCloud_17 dX0_addCloud_30 ?_
  refine q_iload_n C dX0_addCloud_33 rfl 1 rfl ?_
  refine q_aald C (id := 23) (t0 := 6) (by decide) (ceC_23 ad cy _ _ _) rfl rfl dX0_addCloud_34 h (fun _ => rfl) (fun hr34 h => ?_)
  refine q_iload_n C dX0_addCloud_35 rfl 2 rfl ?_
  refine q_iald C (id := (24 + a1.toNatClampNeg)) (by omega) (ceC_r24 ad cy _ _ _ hr34) dX0_addCloud_36 h (fun h => ?_)
  refine q_join (G := fun (y52 : St) => qVi ceC 96 ad cy X A D p l e (headSpec wsX0_addCloud rmX0_addCloud).room s m args below meth c 4 r0 σ0 52 [(3, .int x4)] [] y52) h (fun y52 h => ?_) (fun j52 hj52 h => ?_)
  · refine q_iload_n C dX0_addCloud_52 rfl 0 rfl ?_
    exact q_iret C rfl dX0_addCloud_53 h
  refine q_if_ne C (tgt := 52) dX0_addCloud_37 (by decide) h (fun h => ?_) (fun h => ?_)
  · exact q_sub [3] rfl (hj52 σ26 h)
  · refine q_aload_n C dX0_addCloud_40 rfl 0 rfl ?_
    refine q_get C (Cn := RX0) (T := TX0) (Nf := 9) (ci := 0) (id := 21) (k := 2) (v := .ref (ad 23)) nX0_addCloud_X0 (by decide) (ceC_21 ad cy _ _ _) rfl (by decide) rfl hX0_addCloud_17 dX0_addCloud_41 ?_
    refine q_iload_n C dX0_addCloud_44 rfl 1 rfl ?_
    refine q_aald C (id := 23) (t0 := 6) (by decide) (ceC_23 ad cy _ _ _) rfl rfl dX0_addCloud_45 h (fun _ => rfl) (fun hr45 h => ?_)
    refine q_iload_n C dX0_addCloud_46 rfl 2 rfl ?_
    refine q_aload_n C dX0_addCloud_47 rfl 0 rfl ?_
    refine q_get C (Cn := RX0) (T := TX0) (Nf := 9) (ci := 0) (id := 21) (k := 7) (v := .int (σ26.1 21 7)) nX0_addCloud_X0 (by decide) (ceC_21 ad cy _ _ _) rfl (by decide) rfl hX0_addCloud_33 dX0_addCloud_48 ?_
    refine q_iast C (id := (24 + a1.toNatClampNeg)) (by omega) (fun f g => ceC_r24 ad cy _ f g hr45) dX0_addCloud_51 h (fun σ51 h => ?_)
    exact q_sub [3] rfl (hj52 σ51 h)
abbrev rmX0_isCloudy : Room := { frames := 0, cells := 0, slots := 0, locals := 0 }
theorem hyX0_isCloudy : yX0_isCloudy.cls = RX0 ∧ yX0_isCloudy.cls ≠ "java/lang/invoke/MethodHandle" ∧ yX0_isCloudy.cls ≠ "java/lang/invoke/VarHandle" ∧ (parseMethodDescriptor yX0_isCloudy.desc).map (fun d => d.parameters.length) = some 3 := by decide +kernel
theorem nX0_isCloudy_X0 : ∀ w ∈ u_ws RX0 TX0 9, w ∈ wsX0_isCloudy := by decide +kernel
theorem hX0_isCloudy_17 : Cond.fieldLink RX0 17 (TX0 2).1 (TX0 2).2.1 (TX0 2).2.2.1 ∈ wsX0_isCloudy := by decide +kernel
def fX0_isCloudy (σ : St) (a1 : Int32) (a2 : Int32) (a3 : Int32) : Option (Int32 × St) := qix a1 6 (qix a2 400 (qlet (σ.1 (24 + a1.toNatClampNeg) a2.toNatClampNeg) (fun x8 => qlet (fun (y26 : Int32) => (qzz y26 (some (y26, σ)))) (fun j26 => (qlet (fun (y25 : Unit) => (j26 (0 : Int32))) (fun j25 => (if x8 = (0 : Int32) then (j25 ()) else (if a3 < x8 then (j25 ()) else (j26 (1 : Int32))))))))))
set_option maxHeartbeats 4000000 in
set_option maxRecDepth 100000 in
theorem kX0_isCloudy (l : Launch) (D : va_G) (ad : Nat → Nat) (cy : Nat → ClassId) (X : va_W) (A : Nat → Prop) (zs : Nat × Nat × Option Nat) (σ : St) (a1 : Int32) (a2 : Int32) (a3 : Int32) (r0 : Int32) (σ0 : St) (h : fX0_isCloudy σ a1 a2 a3 = some (r0, σ0)) : Met l yX0_isCloudy wsX0_isCloudy rmX0_isCloudy (qPc ceC 96 ad cy X A D zs [.ref (ad 21), .int a1, .int a2, .int a3] σ) (qQi ceC 96 ad cy X A D r0 σ0) 0 0 A := by
  refine Met.ofW (cc := cX0_isCloudy) (maxL := 5) (ret := (some .boolean)) (by decide) rfl ?_
  intro p e s m args below meth c s₁ B hml hv
  obtain ⟨ha, hP, hK, hE, hD⟩ := hv
  have C : qC ceC 96 ad cy X A D zs cX0_isCloudy 5 RX0 wsX0_isCloudy p s m args meth c (some .boolean) := ⟨B.exec, B.bytes, hml, findClass_of_methodNamed B.named, atoms_spec (ws := wsX0_isCloudy) B.pre, hK, hD, B.returns, B.notSynchronized, hE⟩
  rw [show entryFrame m args 5 = entryFrame m ([.ref (ad 21), .int a1, .int a2, .int a3] : List Value).toArray 5 by rw [ha]]
  refine q_entry (A := A) (Nat.le_of_ble_eq_true rfl) hP (lv := [(0, .ref (ad 21)), (1, .int a1), (2, .int a2), (3, .int a3)]) rfl ?_
  unfold fX0_isCloudy at h
  refine q_aload_n C dX0_isCloudy_0 rfl 0 rfl ?_
  refine q_get C (Cn := RX0) (T := TX0) (Nf := 9) (ci := 0) (id := 21) (k := 2) (v := .ref (ad 23)) nX0_isCloudy_X0 (by decide) (ceC_21 ad cy _ _ _) rfl (by decide) rfl hX0_isCloudy_17 dX0_isCloudy_1 ?_
  refine q_iload_n C dX0_isCloudy_4 rfl 1 rfl ?_
  refine q_aald C (id := 23) (t0 := 6) (by decide) (ceC_23 ad cy _ _ _) rfl rfl dX0_isCloudy_5 h (fun _ => rfl) (fun hr5 h => ?_)
  refine q_iload_n C dX0_isCloudy_6 rfl 2 rfl ?_
  refine q_iald C (id := (24 + a1.toNatClampNeg)) (by omega) (ceC_r24 ad cy _ _ _ hr5) dX0_isCloudy_7 h (fun h => ?_)
  refine q_istoreL C dX0_isCloudy_8 (by decide) h (lw := fun x8 => [(0, .ref (ad 21)), (1, .int a1), (2, .int a2), (3, .int a3), (4, .int x8)]) (fun _ => rfl) (fun x8 h => ?_)
  refine q_iload C dX0_isCloudy_10 4 rfl ?_
  refine q_join (G := fun (y26 : Int32) => qVi ceC 96 ad cy X A D p l e (headSpec wsX0_isCloudy rmX0_isCloudy).room s m args below meth c 5 r0 σ0 26 [] [.int y26] σ) h (fun y26 h => ?_) (fun j26 hj26 h => ?_)
  · exact q_zret C rfl dX0_isCloudy_26 h
  refine q_join (G := fun (y25 : Unit) => qVi ceC 96 ad cy X A D p l e (headSpec wsX0_isCloudy rmX0_isCloudy).room s m args below meth c 5 r0 σ0 25 [] [] σ) h (fun y25 h => ?_) (fun j25 hj25 h => ?_)
  · refine q_iconst C (v := 0) dX0_isCloudy_25 (by decide) ?_
    exact q_sub [] rfl (hj26 (0 : Int32) h)
  refine q_if_eq C (tgt := 25) dX0_isCloudy_12 (by decide) h (fun h => ?_) (fun h => ?_)
  · exact q_sub [] rfl (hj25 () h)
  · refine q_iload C dX0_isCloudy_15 4 rfl ?_
    refine q_iload_n C dX0_isCloudy_17 rfl 3 rfl ?_
    refine q_icmp_gt C (tgt := 25) dX0_isCloudy_18 (by decide) h (fun h => ?_) (fun h => ?_)
    · exact q_sub [] rfl (hj25 () h)
    · refine q_iconst C (v := 1) dX0_isCloudy_21 (by decide) ?_
      refine q_goto C (tgt := 26) dX0_isCloudy_22 (by decide) ?_
      exact q_sub [] rfl (hj26 (1 : Int32) h)
abbrev rmX4_ageOn : Room := { frames := 0, cells := 0, slots := 0, locals := 0 }
theorem hyX4_ageOn : yX4_ageOn.cls = RX4 ∧ yX4_ageOn.cls ≠ "java/lang/invoke/MethodHandle" ∧ yX4_ageOn.cls ≠ "java/lang/invoke/VarHandle" ∧ (parseMethodDescriptor yX4_ageOn.desc).map (fun d => d.parameters.length) = some 2 := by decide +kernel
theorem nX4_ageOn_X4 : ∀ w ∈ u_ws RX4 TX4 8, w ∈ wsX4_ageOn := by decide +kernel
theorem hX4_ageOn_15 : Cond.fieldLink RX4 15 (TX4 1).1 (TX4 1).2.1 (TX4 1).2.2.1 ∈ wsX4_ageOn := by decide +kernel
theorem hX4_ageOn_34 : Cond.fieldLink RX4 34 (TX4 6).1 (TX4 6).2.1 (TX4 6).2.2.1 ∈ wsX4_ageOn := by decide +kernel
theorem hX4_ageOn_9 : Cond.fieldLink RX4 9 (TX4 0).1 (TX4 0).2.1 (TX4 0).2.2.1 ∈ wsX4_ageOn := by decide +kernel
def fX4_ageOn_L (a1 : Int32) (a2 : Int32) : Nat → Int32 → Int32 → St → Option (Int32 × St)
  | 0, _, _, _ => none
  | n + 1, v3, v4, σ => if v4 < (0 : Int32) then (some ((-1 : Int32), σ)) else (qix v4 14 (if v3 < (σ.1 3 v4.toNatClampNeg) then (qlet (v4 + (-1 : Int32)) (fun x49 => fX4_ageOn_L a1 a2 n v3 x49 σ)) else (qix v4 14 (some ((v3 - (σ.1 3 v4.toNatClampNeg)), σ)))))
def fX4_ageOn (σ : St) (a1 : Int32) (a2 : Int32) : Option (Int32 × St) := qix a1 6 (qlet ((((24 : Int32) * a2) + (18 : Int32)) + (σ.1 4 a1.toNatClampNeg)) (fun x14 => qlet ((σ.1 2 6) - (1 : Int32)) (fun x21 => fX4_ageOn_L a1 a2 100000 x14 x21 σ)))
set_option maxHeartbeats 4000000 in
set_option maxRecDepth 100000 in
theorem kX4_ageOn_L {ad : Nat → Nat} {cy : Nat → ClassId} {X : va_W} {A : Nat → Prop} {D : va_G} {zs : Nat × Nat × Option Nat} {p : Program} {l : Launch} {e : Env} {s : State} {m : MethodId} {args : Array Value} {below : List Frame} {meth : Method} {c : Code} {a1 : Int32} {a2 : Int32} (C : qC ceC 96 ad cy X A D zs cX4_ageOn 5 RX4 wsX4_ageOn p s m args meth c (some .int)) (r0 : Int32) (σ0 : St) (n : Nat) : (∀ (v3 : Int32) (v4 : Int32) (σ : St), fX4_ageOn_L a1 a2 n v3 v4 σ = some (r0, σ0) → qVi ceC 96 ad cy X A D p l e (headSpec wsX4_ageOn rmX4_ageOn).room s m args below meth c 5 r0 σ0 23 [(0, .ref (ad 2)), (3, .int v3), (4, .int v4)] [] σ) := by
  induction n with
  | zero =>
    intro v3 v4 σ h; cases h
  | succ n ih =>
    intro v3 v4 σ h
    rw [fX4_ageOn_L] at h
    refine q_iload C dX4_ageOn_23 2 rfl ?_
    refine q_if_lt C (tgt := 55) dX4_ageOn_25 (by decide) h (fun h => ?_) (fun h => ?_)
    · refine q_iconst C (v := -1) dX4_ageOn_55 (by decide) ?_
      exact q_iret C rfl dX4_ageOn_56 h
    · refine q_aload_n C dX4_ageOn_28 rfl 0 rfl ?_
      refine q_get C (Cn := RX4) (T := TX4) (Nf := 8) (ci := 4) (id := 2) (k := 0) (v := .ref (ad 3)) nX4_ageOn_X4 (by decide) (ceC_2 ad cy _ _ _) rfl (by decide) rfl hX4_ageOn_9 dX4_ageOn_29 ?_
      refine q_iload C dX4_ageOn_32 2 rfl ?_
      refine q_iald C (id := 3) (by decide) (ceC_3 ad cy _ _ _) dX4_ageOn_34 h (fun h => ?_)
      refine q_iload_n C dX4_ageOn_35 rfl 1 rfl ?_
      refine q_icmp_gt C (tgt := 49) dX4_ageOn_36 (by decide) h (fun h => ?_) (fun h => ?_)
      · refine q_iincL C dX4_ageOn_49 2 rfl (by decide) (nv := -1) (by decide) h (lw := fun x49 => [(0, .ref (ad 2)), (3, .int v3), (4, .int x49)]) (fun _ => rfl) (fun x49 h => ?_)
        refine q_goto C (tgt := 23) dX4_ageOn_52 (by decide) ?_
        exact q_sub [0, 1, 2] rfl (ih v3 x49 σ h)
      · refine q_iload_n C dX4_ageOn_39 rfl 1 rfl ?_
        refine q_aload_n C dX4_ageOn_40 rfl 0 rfl ?_
        refine q_get C (Cn := RX4) (T := TX4) (Nf := 8) (ci := 4) (id := 2) (k := 0) (v := .ref (ad 3)) nX4_ageOn_X4 (by decide) (ceC_2 ad cy _ _ _) rfl (by decide) rfl hX4_ageOn_9 dX4_ageOn_41 ?_
        refine q_iload C dX4_ageOn_44 2 rfl ?_
        refine q_iald C (id := 3) (by decide) (ceC_3 ad cy _ _ _) dX4_ageOn_46 h (fun h => ?_)
        refine q_isub C dX4_ageOn_47 ?_
        exact q_iret C rfl dX4_ageOn_48 h
set_option maxHeartbeats 4000000 in
set_option maxRecDepth 100000 in
theorem kX4_ageOn (l : Launch) (D : va_G) (ad : Nat → Nat) (cy : Nat → ClassId) (X : va_W) (A : Nat → Prop) (zs : Nat × Nat × Option Nat) (σ : St) (a1 : Int32) (a2 : Int32) (r0 : Int32) (σ0 : St) (h : fX4_ageOn σ a1 a2 = some (r0, σ0)) : Met l yX4_ageOn wsX4_ageOn rmX4_ageOn (qPc ceC 96 ad cy X A D zs [.ref (ad 2), .int a1, .int a2] σ) (qQi ceC 96 ad cy X A D r0 σ0) 0 0 A := by
  refine Met.ofW (cc := cX4_ageOn) (maxL := 5) (ret := (some .int)) (by decide) rfl ?_
  intro p e s m args below meth c s₁ B hml hv
  obtain ⟨ha, hP, hK, hE, hD⟩ := hv
  have C : qC ceC 96 ad cy X A D zs cX4_ageOn 5 RX4 wsX4_ageOn p s m args meth c (some .int) := ⟨B.exec, B.bytes, hml, findClass_of_methodNamed B.named, atoms_spec (ws := wsX4_ageOn) B.pre, hK, hD, B.returns, B.notSynchronized, hE⟩
  rw [show entryFrame m args 5 = entryFrame m ([.ref (ad 2), .int a1, .int a2] : List Value).toArray 5 by rw [ha]]
  refine q_entry (A := A) (Nat.le_of_ble_eq_true rfl) hP (lv := [(0, .ref (ad 2)), (1, .int a1), (2, .int a2)]) rfl ?_
  unfold fX4_ageOn at h
  refine q_bipush C (v := 24) dX4_ageOn_0 (by decide) ?_
  refine q_iload_n C dX4_ageOn_2 rfl 2 rfl ?_
  refine q_imul C dX4_ageOn_3 ?_
  refine q_bipush C (v := 18) dX4_ageOn_4 (by decide) ?_
  refine q_iadd C dX4_ageOn_6 ?_
  refine q_aload_n C dX4_ageOn_7 rfl 0 rfl ?_
  refine q_get C (Cn := RX4) (T := TX4) (Nf := 8) (ci := 4) (id := 2) (k := 1) (v := .ref (ad 4)) nX4_ageOn_X4 (by decide) (ceC_2 ad cy _ _ _) rfl (by decide) rfl hX4_ageOn_15 dX4_ageOn_8 ?_
  refine q_iload_n C dX4_ageOn_11 rfl 1 rfl ?_
  refine q_iald C (id := 4) (by decide) (ceC_4 ad cy _ _ _) dX4_ageOn_12 h (fun h => ?_)
  refine q_iadd C dX4_ageOn_13 ?_
  refine q_istore_nL C dX4_ageOn_14 rfl (by decide) h (lw := fun x14 => [(0, .ref (ad 2)), (1, .int a1), (2, .int a2), (3, .int x14)]) (fun _ => rfl) (fun x14 h => ?_)
  refine q_aload_n C dX4_ageOn_15 rfl 0 rfl ?_
  refine q_get C (Cn := RX4) (T := TX4) (Nf := 8) (ci := 4) (id := 2) (k := 6) (v := .int (σ.1 2 6)) nX4_ageOn_X4 (by decide) (ceC_2 ad cy _ _ _) rfl (by decide) rfl hX4_ageOn_34 dX4_ageOn_16 ?_
  refine q_iconst C (v := 1) dX4_ageOn_19 (by decide) ?_
  refine q_isub C dX4_ageOn_20 ?_
  refine q_istoreL C dX4_ageOn_21 (by decide) h (lw := fun x21 => [(0, .ref (ad 2)), (1, .int a1), (2, .int a2), (3, .int x14), (4, .int x21)]) (fun _ => rfl) (fun x21 h => ?_)
  exact q_sub [0, 3, 4] rfl ((kX4_ageOn_L C r0 σ0 100000) x14 x21 σ h)
abbrev rmX4_lightOn : Room := { frames := 1, cells := 0, slots := 0, locals := 24 }
theorem hyX4_lightOn : yX4_lightOn.cls = RX4 ∧ yX4_lightOn.cls ≠ "java/lang/invoke/MethodHandle" ∧ yX4_lightOn.cls ≠ "java/lang/invoke/VarHandle" ∧ (parseMethodDescriptor yX4_lightOn.desc).map (fun d => d.parameters.length) = some 2 := by decide +kernel
theorem nX4_lightOn_X4 : ∀ w ∈ u_ws RX4 TX4 8, w ∈ wsX4_lightOn := by decide +kernel
theorem hX4_lightOn_26 : Cond.fieldLink RX4 26 (TX4 4).1 (TX4 4).2.1 (TX4 4).2.2.1 ∈ wsX4_lightOn := by decide +kernel
theorem hX4_lightOn_23 : Cond.fieldLink RX4 23 (TX4 3).1 (TX4 3).2.1 (TX4 3).2.2.1 ∈ wsX4_lightOn := by decide +kernel
theorem hX4_lightOn_46 : Cond.methodLink RX4 46 Lib.Math.min.name ∈ wsX4_lightOn := by decide +kernel
theorem hX4_lightOn_mins : Cond.static Lib.Math.min.name ∈ wsX4_lightOn := by decide +kernel
theorem hX4_lightOn_mi : Cond.initialized "java/lang/Math" ∈ wsX4_lightOn := by decide +kernel
theorem hX4_lightOn_minc : Cond.code Lib.Math.min.name Lib.Math.min.code 2 (some .int) ∈ wsX4_lightOn := by decide +kernel
def fX4_lightOn (σ : St) (a1 : Int32) (a2 : Int32) : Option (Int32 × St) := qcall (fX4_ageOn σ a1 a2) (fun r3 σ3 => if r3 = (-1 : Int32) then (some ((0 : Int32), σ3)) else (qix a1 6 (qlet (σ3.1 13 a1.toNatClampNeg) (fun x20 => if x20 = (0 : Int32) then (some ((1 : Int32), σ3)) else (qix a1 6 (qix (if (x20 - (1 : Int32)) < r3 then (x20 - (1 : Int32)) else r3) 60 (some ((σ3.1 (7 + a1.toNatClampNeg) (if (x20 - (1 : Int32)) < r3 then (x20 - (1 : Int32)) else r3).toNatClampNeg), σ3))))))))
set_option maxHeartbeats 4000000 in
set_option maxRecDepth 100000 in
theorem kX4_lightOn (l : Launch) (D : va_G) (ad : Nat → Nat) (cy : Nat → ClassId) (X : va_W) (A : Nat → Prop) (zs : Nat × Nat × Option Nat) (σ : St) (a1 : Int32) (a2 : Int32) (r0 : Int32) (σ0 : St) (h : fX4_lightOn σ a1 a2 = some (r0, σ0)) : Met l yX4_lightOn wsX4_lightOn rmX4_lightOn (qPc ceC 96 ad cy X A D zs [.ref (ad 2), .int a1, .int a2] σ) (qQi ceC 96 ad cy X A D r0 σ0) 0 0 A := by
  refine Met.ofW (cc := cX4_lightOn) (maxL := 5) (ret := (some .int)) (by decide) rfl ?_
  intro p e s m args below meth c s₁ B hml hv
  obtain ⟨ha, hP, hK, hE, hD⟩ := hv
  have C : qC ceC 96 ad cy X A D zs cX4_lightOn 5 RX4 wsX4_lightOn p s m args meth c (some .int) := ⟨B.exec, B.bytes, hml, findClass_of_methodNamed B.named, atoms_spec (ws := wsX4_lightOn) B.pre, hK, hD, B.returns, B.notSynchronized, hE⟩
  rw [show entryFrame m args 5 = entryFrame m ([.ref (ad 2), .int a1, .int a2] : List Value).toArray 5 by rw [ha]]
  refine q_entry (A := A) (Nat.le_of_ble_eq_true rfl) hP (lv := [(0, .ref (ad 2)), (1, .int a1), (2, .int a2)]) rfl ?_
  unfold fX4_lightOn at h
  refine q_aload_n C dX4_lightOn_0 rfl 0 rfl ?_
  refine q_iload_n C dX4_lightOn_1 rfl 1 rfl ?_
  refine q_iload_n C dX4_lightOn_2 rfl 2 rfl ?_
  refine q_callVi C (rm := rmX4_ageOn) (As := [.int a1, .int a2]) (rest := []) (id := 2) (ci := 4) (fun r9 σ9 h9 => kX4_ageOn l D ad cy X A zs σ a1 a2 r9 σ9 h9) gX4_lightOn_X4_ageOn rfl rfl rfl hyX4_ageOn ⟨Nat.le_of_ble_eq_true rfl, Nat.le_of_ble_eq_true rfl⟩ (by decide) (ceC_2 ad cy _ _ _) rfl rfl rfl (Nat.le_of_ble_eq_true rfl) dX4_lightOn_3 ⟨Nat.zero_le _, Nat.zero_le _⟩ h (fun r3 σ3 h => ?_)
  refine q_istore_n C dX4_lightOn_6 rfl (by decide) (lv' := [(0, .ref (ad 2)), (1, .int a1), (2, .int a2), (3, .int r3)]) rfl ?_
  refine q_iload_n C dX4_lightOn_7 rfl 3 rfl ?_
  refine q_iconst C (v := -1) dX4_lightOn_8 (by decide) ?_
  refine q_icmp_ne C (tgt := 14) dX4_lightOn_9 (by decide) h (fun h => ?_) (fun h => ?_)
  · refine q_aload_n C dX4_lightOn_14 rfl 0 rfl ?_
    refine q_get C (Cn := RX4) (T := TX4) (Nf := 8) (ci := 4) (id := 2) (k := 4) (v := .ref (ad 13)) nX4_lightOn_X4 (by decide) (ceC_2 ad cy _ _ _) rfl (by decide) rfl hX4_lightOn_26 dX4_lightOn_15 ?_
    refine q_iload_n C dX4_lightOn_18 rfl 1 rfl ?_
    refine q_iald C (id := 13) (by decide) (ceC_13 ad cy _ _ _) dX4_lightOn_19 h (fun h => ?_)
    refine q_istoreL C dX4_lightOn_20 (by decide) h (lw := fun x20 => [(0, .ref (ad 2)), (1, .int a1), (2, .int a2), (3, .int r3), (4, .int x20)]) (fun _ => rfl) (fun x20 h => ?_)
    refine q_iload C dX4_lightOn_22 4 rfl ?_
    refine q_if_ne C (tgt := 29) dX4_lightOn_24 (by decide) h (fun h => ?_) (fun h => ?_)
    · refine q_aload_n C dX4_lightOn_29 rfl 0 rfl ?_
      refine q_get C (Cn := RX4) (T := TX4) (Nf := 8) (ci := 4) (id := 2) (k := 3) (v := .ref (ad 6)) nX4_lightOn_X4 (by decide) (ceC_2 ad cy _ _ _) rfl (by decide) rfl hX4_lightOn_23 dX4_lightOn_30 ?_
      refine q_iload_n C dX4_lightOn_33 rfl 1 rfl ?_
      refine q_aald C (id := 6) (t0 := 5) (by decide) (ceC_6 ad cy _ _ _) rfl rfl dX4_lightOn_34 h (fun _ => rfl) (fun hr34 h => ?_)
      refine q_iload_n C dX4_lightOn_35 rfl 3 rfl ?_
      refine q_iload C dX4_lightOn_36 4 rfl ?_
      refine q_iconst C (v := 1) dX4_lightOn_38 (by decide) ?_
      refine q_isub C dX4_lightOn_39 ?_
      refine q_mmin C hX4_lightOn_46 hX4_lightOn_mins hX4_lightOn_mi hX4_lightOn_minc (Nat.le_of_ble_eq_true rfl) (Nat.le_of_ble_eq_true rfl) ⟨Nat.zero_le _, Nat.zero_le _⟩ dX4_lightOn_40 ?_
      refine q_bald C (id := (7 + a1.toNatClampNeg)) (by omega) (ceC_r7 ad cy _ _ _ hr34) dX4_lightOn_43 h (fun h => ?_)
      exact q_iret C rfl dX4_lightOn_44 h
    · refine q_iconst C (v := 1) dX4_lightOn_27 (by decide) ?_
      exact q_iret C rfl dX4_lightOn_28 h
  · refine q_iconst C (v := 0) dX4_lightOn_12 (by decide) ?_
    exact q_iret C rfl dX4_lightOn_13 h
abbrev rmX0_verdictOn : Room := { frames := 2, cells := 0, slots := 0, locals := 48 }
theorem hyX0_verdictOn : yX0_verdictOn.cls = RX0 ∧ yX0_verdictOn.cls ≠ "java/lang/invoke/MethodHandle" ∧ yX0_verdictOn.cls ≠ "java/lang/invoke/VarHandle" ∧ (parseMethodDescriptor yX0_verdictOn.desc).map (fun d => d.parameters.length) = some 2 := by decide +kernel
theorem nX0_verdictOn_X0 : ∀ w ∈ u_ws RX0 TX0 9, w ∈ wsX0_verdictOn := fun w h => List.mem_cons_of_mem _ (List.mem_append_left _ (List.mem_append_right _ h))
theorem hX0_verdictOn_20 : Cond.fieldLink RX0 20 (TX0 3).1 (TX0 3).2.1 (TX0 3).2.2.1 ∈ wsX0_verdictOn := by decide +kernel
theorem hX0_verdictOn_23 : Cond.fieldLink RX0 23 (TX0 4).1 (TX0 4).2.1 (TX0 4).2.2.1 ∈ wsX0_verdictOn := by decide +kernel
theorem hX0_verdictOn_9 : Cond.fieldLink RX0 9 (TX0 1).1 (TX0 1).2.1 (TX0 1).2.2.1 ∈ wsX0_verdictOn := by decide +kernel
theorem hX0_verdictOn_39 : Cond.fieldLink RX0 39 (TX0 0).1 (TX0 0).2.1 (TX0 0).2.2.1 ∈ wsX0_verdictOn := by decide +kernel
def fX0_verdictOn (σ : St) (a1 : Int32) (a2 : Int32) : Option (Int32 × St) := qix a1 300 (qix (σ.1 31 a1.toNatClampNeg) 12 (qlet (σ.1 30 (σ.1 31 a1.toNatClampNeg).toNatClampNeg) (fun x11 => qix a1 300 (qlet (σ.1 22 a1.toNatClampNeg) (fun x18 => qcall (fX4_lightOn σ x11 x18) (fun r27 σ27 => if r27 = (0 : Int32) then (some ((0 : Int32), σ27)) else (qlet (fun (y61 : Int32 × St) => (qlet y61.1 (fun x61 => qlet (fun (y73 : Int32) => (some (y73, y61.2))) (fun j73 => (if x61 = (0 : Int32) then (j73 (1 : Int32)) else (j73 (2 : Int32))))))) (fun j61 => (qlet (fun (y60 : St) => (j61 ((0 : Int32), y60))) (fun j60 => (if r27 = (2 : Int32) then (qcall (fX0_isCloudy σ27 x11 x18 a2) (fun r50 σ50 => if r50 = (0 : Int32) then (j61 ((1 : Int32), σ50)) else (j60 σ50))) else (j60 σ27))))))))))))
set_option maxHeartbeats 4000000 in
set_option maxRecDepth 100000 in
theorem kX0_verdictOn (l : Launch) (D : va_G) (ad : Nat → Nat) (cy : Nat → ClassId) (X : va_W) (A : Nat → Prop) (zs : Nat × Nat × Option Nat) (σ : St) (a1 : Int32) (a2 : Int32) (r0 : Int32) (σ0 : St) (h : fX0_verdictOn σ a1 a2 = some (r0, σ0)) : Met l yX0_verdictOn wsX0_verdictOn rmX0_verdictOn (qPc ceC 96 ad cy X A D zs [.ref (ad 21), .int a1, .int a2] σ) (qQi ceC 96 ad cy X A D r0 σ0) 0 0 A := by
  refine Met.ofW (cc := cX0_verdictOn) (maxL := 7) (ret := (some .int)) (by decide) rfl ?_
  intro p e s m args below meth c s₁ B hml hv
  obtain ⟨ha, hP, hK, hE, hD⟩ := hv
  have C : qC ceC 96 ad cy X A D zs cX0_verdictOn 7 RX0 wsX0_verdictOn p s m args meth c (some .int) := ⟨B.exec, B.bytes, hml, findClass_of_methodNamed B.named, atoms_spec (ws := wsX0_verdictOn) B.pre, hK, hD, B.returns, B.notSynchronized, hE⟩
  rw [show entryFrame m args 7 = entryFrame m ([.ref (ad 21), .int a1, .int a2] : List Value).toArray 7 by rw [ha]]
  refine q_entry (A := A) (Nat.le_of_ble_eq_true rfl) hP (lv := [(0, .ref (ad 21)), (1, .int a1), (2, .int a2)]) rfl ?_
  unfold fX0_verdictOn at h
  refine q_aload_n C dX0_verdictOn_0 rfl 0 rfl ?_
  refine q_get C (Cn := RX0) (T := TX0) (Nf := 9) (ci := 0) (id := 21) (k := 3) (v := .ref (ad 30)) nX0_verdictOn_X0 (by decide) (ceC_21 ad cy _ _ _) rfl (by decide) rfl hX0_verdictOn_20 dX0_verdictOn_1 ?_
  refine q_aload_n C dX0_verdictOn_4 rfl 0 rfl ?_
  refine q_get C (Cn := RX0) (T := TX0) (Nf := 9) (ci := 0) (id := 21) (k := 4) (v := .ref (ad 31)) nX0_verdictOn_X0 (by decide) (ceC_21 ad cy _ _ _) rfl (by decide) rfl hX0_verdictOn_23 dX0_verdictOn_5 ?_
  refine q_iload_n C dX0_verdictOn_8 rfl 1 rfl ?_
  refine q_iald C (id := 31) (by decide) (ceC_31 ad cy _ _ _) dX0_verdictOn_9 h (fun h => ?_)
  refine q_iald C (id := 30) (by decide) (ceC_30 ad cy _ _ _) dX0_verdictOn_10 h (fun h => ?_)
  refine q_istore_nL C dX0_verdictOn_11 rfl (by decide) h (lw := fun x11 => [(0, .ref (ad 21)), (1, .int a1), (2, .int a2), (3, .int x11)]) (fun _ => rfl) (fun x11 h => ?_)
  refine q_aload_n C dX0_verdictOn_12 rfl 0 rfl ?_
  refine q_get C (Cn := RX0) (T := TX0) (Nf := 9) (ci := 0) (id := 21) (k := 1) (v := .ref (ad 22)) nX0_verdictOn_X0 (by decide) (ceC_21 ad cy _ _ _) rfl (by decide) rfl hX0_verdictOn_9 dX0_verdictOn_13 ?_
  refine q_iload_n C dX0_verdictOn_16 rfl 1 rfl ?_
  refine q_iald C (id := 22) (by decide) (ceC_22 ad cy _ _ _) dX0_verdictOn_17 h (fun h => ?_)
  refine q_istoreL C dX0_verdictOn_18 (by decide) h (lw := fun x18 => [(0, .ref (ad 21)), (1, .int a1), (2, .int a2), (3, .int x11), (4, .int x18)]) (fun _ => rfl) (fun x18 h => ?_)
  refine q_aload_n C dX0_verdictOn_20 rfl 0 rfl ?_
  refine q_get C (Cn := RX0) (T := TX0) (Nf := 9) (ci := 0) (id := 21) (k := 0) (v := .ref (ad 2)) nX0_verdictOn_X0 (by decide) (ceC_21 ad cy _ _ _) rfl (by decide) rfl hX0_verdictOn_39 dX0_verdictOn_21 ?_
  refine q_iload_n C dX0_verdictOn_24 rfl 3 rfl ?_
  refine q_iload C dX0_verdictOn_25 4 rfl ?_
  refine q_callVi C (rm := rmX4_lightOn) (As := [.int x11, .int x18]) (rest := []) (id := 2) (ci := 4) (fun r9 σ9 h9 => kX4_lightOn l D ad cy X A zs σ x11 x18 r9 σ9 h9) gX0_verdictOn_X4_lightOn rfl rfl rfl hyX4_lightOn ⟨Nat.le_of_ble_eq_true rfl, Nat.le_of_ble_eq_true rfl⟩ (by decide) (ceC_2 ad cy _ _ _) rfl rfl rfl (Nat.le_of_ble_eq_true rfl) dX0_verdictOn_27 ⟨Nat.zero_le _, Nat.zero_le _⟩ h (fun r27 σ27 h => ?_)
  refine q_istore C dX0_verdictOn_30 (by decide) (lv' := [(0, .ref (ad 21)), (1, .int a1), (2, .int a2), (3, .int x11), (4, .int x18), (5, .int r27)]) rfl ?_
  refine q_iload C dX0_verdictOn_32 5 rfl ?_
  refine q_if_ne C (tgt := 39) dX0_verdictOn_34 (by decide) h (fun h => ?_) (fun h => ?_)
  · refine q_iload C dX0_verdictOn_39 5 rfl ?_
    refine q_iconst C (v := 2) dX0_verdictOn_41 (by decide) ?_
    refine q_join (G := fun (y61 : Int32 × St) => qVi ceC 96 ad cy X A D p l e (headSpec wsX0_verdictOn rmX0_verdictOn).room s m args below meth c 7 r0 σ0 61 [] [.int y61.1] y61.2) h (fun y61 h => ?_) (fun j61 hj61 h => ?_)
    · refine q_istoreL C dX0_verdictOn_61 (by decide) h (lw := fun x61 => [(6, .int x61)]) (fun _ => rfl) (fun x61 h => ?_)
      refine q_iload C dX0_verdictOn_63 0 rfl ?_
      refine q_join (G := fun (y73 : Int32) => qVi ceC 96 ad cy X A D p l e (headSpec wsX0_verdictOn rmX0_verdictOn).room s m args below meth c 7 r0 σ0 73 [] [.int y73] y61.2) h (fun y73 h => ?_) (fun j73 hj73 h => ?_)
      · exact q_iret C rfl dX0_verdictOn_73 h
      refine q_if_eq C (tgt := 72) dX0_verdictOn_65 (by decide) h (fun h => ?_) (fun h => ?_)
      · refine q_iconst C (v := 1) dX0_verdictOn_72 (by decide) ?_
        exact q_sub [] rfl (hj73 (1 : Int32) h)
      · refine q_iconst C (v := 2) dX0_verdictOn_68 (by decide) ?_
        refine q_goto C (tgt := 73) dX0_verdictOn_69 (by decide) ?_
        exact q_sub [] rfl (hj73 (2 : Int32) h)
    refine q_join (G := fun (y60 : St) => qVi ceC 96 ad cy X A D p l e (headSpec wsX0_verdictOn rmX0_verdictOn).room s m args below meth c 7 r0 σ0 60 [] [] y60) h (fun y60 h => ?_) (fun j60 hj60 h => ?_)
    · refine q_iconst C (v := 0) dX0_verdictOn_60 (by decide) ?_
      exact q_sub [] rfl (hj61 ((0 : Int32), y60) h)
    refine q_icmp_ne C (tgt := 60) dX0_verdictOn_42 (by decide) h (fun h => ?_) (fun h => ?_)
    · exact q_sub [] rfl (hj60 σ27 h)
    · refine q_aload_n C dX0_verdictOn_45 rfl 0 rfl ?_
      refine q_iload_n C dX0_verdictOn_46 rfl 3 rfl ?_
      refine q_iload C dX0_verdictOn_47 4 rfl ?_
      refine q_iload_n C dX0_verdictOn_49 rfl 2 rfl ?_
      refine q_callVi C (rm := rmX0_isCloudy) (As := [.int x11, .int x18, .int a2]) (rest := []) (id := 21) (ci := 0) (fun r9 σ9 h9 => kX0_isCloudy l D ad cy X A zs σ27 x11 x18 a2 r9 σ9 h9) gX0_verdictOn_X0_isCloudy rfl rfl rfl hyX0_isCloudy ⟨Nat.le_of_ble_eq_true rfl, Nat.le_of_ble_eq_true rfl⟩ (by decide) (ceC_21 ad cy _ _ _) rfl rfl rfl (Nat.le_of_ble_eq_true rfl) dX0_verdictOn_50 ⟨Nat.zero_le _, Nat.zero_le _⟩ h (fun r50 σ50 h => ?_)
      refine q_if_ne C (tgt := 60) dX0_verdictOn_53 (by decide) h (fun h => ?_) (fun h => ?_)
      · exact q_sub [] rfl (hj60 σ50 h)
      · refine q_iconst C (v := 1) dX0_verdictOn_56 (by decide) ?_
        refine q_goto C (tgt := 61) dX0_verdictOn_57 (by decide) ?_
        exact q_sub [] rfl (hj61 ((1 : Int32), σ50) h)
  · refine q_iconst C (v := 0) dX0_verdictOn_37 (by decide) ?_
    exact q_iret C rfl dX0_verdictOn_38 h
abbrev rmX0_judge : Room := { frames := 3, cells := 0, slots := 0, locals := 74 }
theorem hyX0_judge : yX0_judge.cls = RX0 ∧ yX0_judge.cls ≠ "java/lang/invoke/MethodHandle" ∧ yX0_judge.cls ≠ "java/lang/invoke/VarHandle" ∧ (parseMethodDescriptor yX0_judge.desc).map (fun d => d.parameters.length) = some 1 := by decide +kernel
theorem nX0_judge_X0 : ∀ w ∈ u_ws RX0 TX0 9, w ∈ wsX0_judge := fun w h => List.mem_cons_of_mem _ (List.mem_append_left _ (List.mem_append_right _ h))
theorem hX0_judge_36 : Cond.fieldLink RX0 36 (TX0 8).1 (TX0 8).2.1 (TX0 8).2.2.1 ∈ wsX0_judge := by decide +kernel
theorem hX0_judge_26 : Cond.fieldLink RX0 26 (TX0 5).1 (TX0 5).2.1 (TX0 5).2.2.1 ∈ wsX0_judge := by decide +kernel
theorem hX0_judge_23 : Cond.fieldLink RX0 23 (TX0 4).1 (TX0 4).2.1 (TX0 4).2.2.1 ∈ wsX0_judge := by decide +kernel
def fX0_judge_L (a1 : Int32) : Nat → Int32 → St → Option (Int32 × St)
  | 0, _, _ => none
  | n + 1, v2, σ => if a1 ≤ v2 then (qlet (sI σ 21 8 a1) (fun σ50 => some ((0 : Int32), σ50))) else (qix v2 300 (qlet (fun (y41 : Int32 × St) => (qix v2 300 (qlet (sI y41.2 32 v2.toNatClampNeg y41.1) (fun σ41 => qlet (v2 + (1 : Int32)) (fun x42 => fX0_judge_L a1 n x42 σ41))))) (fun j41 => (if (σ.1 31 v2.toNatClampNeg) = (-1 : Int32) then (j41 ((-1 : Int32), σ)) else (qcall (fX0_verdictOn σ v2 a1) (fun r38 σ38 => j41 (r38, σ38)))))))
def fX0_judge (σ : St) (a1 : Int32) : Option (Int32 × St) := if (σ.1 21 8) = a1 then (some ((0 : Int32), σ)) else (fX0_judge_L a1 100000 (0 : Int32) σ)
set_option maxHeartbeats 4000000 in
set_option maxRecDepth 100000 in
theorem kX0_judge_L {ad : Nat → Nat} {cy : Nat → ClassId} {X : va_W} {A : Nat → Prop} {D : va_G} {zs : Nat × Nat × Option Nat} {p : Program} {l : Launch} {e : Env} {s : State} {m : MethodId} {args : Array Value} {below : List Frame} {meth : Method} {c : Code} {a1 : Int32} (C : qC ceC 96 ad cy X A D zs cX0_judge 3 RX0 wsX0_judge p s m args meth c none) (r0 : Int32) (σ0 : St) (n : Nat) : (∀ (v2 : Int32) (σ : St), fX0_judge_L a1 n v2 σ = some (r0, σ0) → qVv ceC 96 ad cy X A D p l e (headSpec wsX0_judge rmX0_judge).room s m args below meth c 3 r0 σ0 11 [(0, .ref (ad 21)), (1, .int a1), (2, .int v2)] [] σ) := by
  induction n with
  | zero =>
    intro v2 σ h; cases h
  | succ n ih =>
    intro v2 σ h
    rw [fX0_judge_L] at h
    refine q_iload_n C dX0_judge_11 rfl 2 rfl ?_
    refine q_iload_n C dX0_judge_12 rfl 1 rfl ?_
    refine q_icmp_ge C (tgt := 48) dX0_judge_13 (by decide) h (fun h => ?_) (fun h => ?_)
    · refine q_aload_n C dX0_judge_48 rfl 0 rfl ?_
      refine q_iload_n C dX0_judge_49 rfl 1 rfl ?_
      refine q_put C (Cn := RX0) (T := TX0) (ty0 := tyX0) (Nf := 9) (ci := 0) (id := 21) (k := 8) (y := 0) tyX0_ok nmX0 nX0_judge_X0 (by decide) (ceC_21 ad cy _ _ _) (ceC_21 ad cy _ _ _) rfl (by decide) rfl (by decide +kernel) (Nat.le_of_ble_eq_true rfl) hX0_judge_36 dX0_judge_50 h (fun σ50 h => ?_)
      exact q_vret C (r0 := r0) rfl dX0_judge_53 h
    · refine q_aload_n C dX0_judge_16 rfl 0 rfl ?_
      refine q_get C (Cn := RX0) (T := TX0) (Nf := 9) (ci := 0) (id := 21) (k := 5) (v := .ref (ad 32)) nX0_judge_X0 (by decide) (ceC_21 ad cy _ _ _) rfl (by decide) rfl hX0_judge_26 dX0_judge_17 ?_
      refine q_iload_n C dX0_judge_20 rfl 2 rfl ?_
      refine q_aload_n C dX0_judge_21 rfl 0 rfl ?_
      refine q_get C (Cn := RX0) (T := TX0) (Nf := 9) (ci := 0) (id := 21) (k := 4) (v := .ref (ad 31)) nX0_judge_X0 (by decide) (ceC_21 ad cy _ _ _) rfl (by decide) rfl hX0_judge_23 dX0_judge_22 ?_
      refine q_iload_n C dX0_judge_25 rfl 2 rfl ?_
      refine q_iald C (id := 31) (by decide) (ceC_31 ad cy _ _ _) dX0_judge_26 h (fun h => ?_)
      refine q_iconst C (v := -1) dX0_judge_27 (by decide) ?_
      refine q_join (G := fun (y41 : Int32 × St) => qVv ceC 96 ad cy X A D p l e (headSpec wsX0_judge rmX0_judge).room s m args below meth c 3 r0 σ0 41 [(0, .ref (ad 21)), (1, .int a1), (2, .int v2)] [.int y41.1, .int v2, .ref (ad 32)] y41.2) h (fun y41 h => ?_) (fun j41 hj41 h => ?_)
      · refine q_iast C (id := 32) (by decide) (fun f g => ceC_32 ad cy _ f g) dX0_judge_41 h (fun σ41 h => ?_)
        refine q_iincL C dX0_judge_42 2 rfl (by decide) (nv := 1) (by decide) h (lw := fun x42 => [(0, .ref (ad 21)), (1, .int a1), (2, .int x42)]) (fun _ => rfl) (fun x42 h => ?_)
        refine q_goto C (tgt := 11) dX0_judge_45 (by decide) ?_
        exact q_sub [0, 1, 2] rfl (ih x42 σ41 h)
      refine q_icmp_ne C (tgt := 35) dX0_judge_28 (by decide) h (fun h => ?_) (fun h => ?_)
      · refine q_aload_n C dX0_judge_35 rfl 0 rfl ?_
        refine q_iload_n C dX0_judge_36 rfl 2 rfl ?_
        refine q_iload_n C dX0_judge_37 rfl 1 rfl ?_
        refine q_callVi C (rm := rmX0_verdictOn) (As := [.int v2, .int a1]) (rest := [.int v2, .ref (ad 32)]) (id := 21) (ci := 0) (fun r9 σ9 h9 => kX0_verdictOn l D ad cy X A zs σ v2 a1 r9 σ9 h9) gX0_judge_X0_verdictOn rfl rfl rfl hyX0_verdictOn ⟨Nat.le_of_ble_eq_true rfl, Nat.le_of_ble_eq_true rfl⟩ (by decide) (ceC_21 ad cy _ _ _) rfl rfl rfl (Nat.le_of_ble_eq_true rfl) dX0_judge_38 ⟨Nat.zero_le _, Nat.zero_le _⟩ h (fun r38 σ38 h => ?_)
        exact q_sub [0, 1, 2] rfl (hj41 (r38, σ38) h)
      · refine q_iconst C (v := -1) dX0_judge_31 (by decide) ?_
        refine q_goto C (tgt := 41) dX0_judge_32 (by decide) ?_
        exact q_sub [0, 1, 2] rfl (hj41 ((-1 : Int32), σ) h)
set_option maxHeartbeats 4000000 in
set_option maxRecDepth 100000 in
theorem kX0_judge (l : Launch) (D : va_G) (ad : Nat → Nat) (cy : Nat → ClassId) (X : va_W) (A : Nat → Prop) (zs : Nat × Nat × Option Nat) (σ : St) (a1 : Int32) (r0 : Int32) (σ0 : St) (h : fX0_judge σ a1 = some (r0, σ0)) : Met l yX0_judge wsX0_judge rmX0_judge (qPc ceC 96 ad cy X A D zs [.ref (ad 21), .int a1] σ) (qQv ceC 96 ad cy X A D σ0) 0 0 A := by
  refine Met.ofW (cc := cX0_judge) (maxL := 3) (ret := none) (by decide) rfl ?_
  intro p e s m args below meth c s₁ B hml hv
  obtain ⟨ha, hP, hK, hE, hD⟩ := hv
  have C : qC ceC 96 ad cy X A D zs cX0_judge 3 RX0 wsX0_judge p s m args meth c none := ⟨B.exec, B.bytes, hml, findClass_of_methodNamed B.named, atoms_spec (ws := wsX0_judge) B.pre, hK, hD, B.returns, B.notSynchronized, hE⟩
  rw [show entryFrame m args 3 = entryFrame m ([.ref (ad 21), .int a1] : List Value).toArray 3 by rw [ha]]
  refine q_entry (A := A) (Nat.le_of_ble_eq_true rfl) hP (lv := [(0, .ref (ad 21)), (1, .int a1)]) rfl ?_
  unfold fX0_judge at h
  refine q_aload_n C dX0_judge_0 rfl 0 rfl ?_
  refine q_get C (Cn := RX0) (T := TX0) (Nf := 9) (ci := 0) (id := 21) (k := 8) (v := .int (σ.1 21 8)) nX0_judge_X0 (by decide) (ceC_21 ad cy _ _ _) rfl (by decide) rfl hX0_judge_36 dX0_judge_1 ?_
  refine q_iload_n C dX0_judge_4 rfl 1 rfl ?_
  refine q_icmp_ne C (tgt := 9) dX0_judge_5 (by decide) h (fun h => ?_) (fun h => ?_)
  · refine q_iconst C (v := 0) dX0_judge_9 (by decide) ?_
    refine q_istore_n C dX0_judge_10 rfl (by decide) (lv' := [(0, .ref (ad 21)), (1, .int a1), (2, .int (0 : Int32))]) rfl ?_
    exact q_sub [0, 1, 2] rfl ((kX0_judge_L C r0 σ0 100000) (0 : Int32) σ h)
  · exact q_vret C (r0 := r0) rfl dX0_judge_8 h
abbrev rmX0_worthOn : Room := { frames := 0, cells := 0, slots := 0, locals := 0 }
theorem hyX0_worthOn : yX0_worthOn.cls = RX0 ∧ yX0_worthOn.cls ≠ "java/lang/invoke/MethodHandle" ∧ yX0_worthOn.cls ≠ "java/lang/invoke/VarHandle" ∧ (parseMethodDescriptor yX0_worthOn.desc).map (fun d => d.parameters.length) = some 2 := by decide +kernel
theorem nX0_worthOn_X0 : ∀ w ∈ u_ws RX0 TX0 9, w ∈ wsX0_worthOn := by decide +kernel
theorem hX0_worthOn_36 : Cond.fieldLink RX0 36 (TX0 8).1 (TX0 8).2.1 (TX0 8).2.2.1 ∈ wsX0_worthOn := by decide +kernel
theorem hX0_worthOn_23 : Cond.fieldLink RX0 23 (TX0 4).1 (TX0 4).2.1 (TX0 4).2.2.1 ∈ wsX0_worthOn := by decide +kernel
theorem hX0_worthOn_9 : Cond.fieldLink RX0 9 (TX0 1).1 (TX0 1).2.1 (TX0 1).2.2.1 ∈ wsX0_worthOn := by decide +kernel
theorem hX0_worthOn_26 : Cond.fieldLink RX0 26 (TX0 5).1 (TX0 5).2.1 (TX0 5).2.2.1 ∈ wsX0_worthOn := by decide +kernel
def fX0_worthOn_L (a1 : Int32) (a2 : Int32) : Nat → Int32 → Int32 → St → Option (Int32 × St)
  | 0, _, _, _ => none
  | n + 1, v3, v4, σ => if (σ.1 21 8) ≤ v4 then (qlet (fun (y81 : Int32) => (some (y81, σ))) (fun j81 => (if (0 : Int32) ≤ v3 then (j81 v3) else (j81 (0 : Int32))))) else (qix v4 300 (qlet (fun (y66 : Int32) => (qlet (v4 + (1 : Int32)) (fun x66 => fX0_worthOn_L a1 a2 n y66 x66 σ))) (fun j66 => (if (σ.1 31 v4.toNatClampNeg) = a1 then (qix v4 300 (if a2 ≤ (σ.1 22 v4.toNatClampNeg) then (j66 v3) else (qix v4 300 (if (σ.1 32 v4.toNatClampNeg) = (2 : Int32) then (qlet (v3 + (1 : Int32)) (fun x47 => j66 x47)) else (qix v4 300 (if (σ.1 32 v4.toNatClampNeg) = (0 : Int32) then (qlet (v3 + (-2 : Int32)) (fun x63 => j66 x63)) else (j66 v3))))))) else (j66 v3)))))
def fX0_worthOn (σ : St) (a1 : Int32) (a2 : Int32) : Option (Int32 × St) := fX0_worthOn_L a1 a2 100000 (2 : Int32) (0 : Int32) σ
set_option maxHeartbeats 4000000 in
set_option maxRecDepth 100000 in
theorem kX0_worthOn_L {ad : Nat → Nat} {cy : Nat → ClassId} {X : va_W} {A : Nat → Prop} {D : va_G} {zs : Nat × Nat × Option Nat} {p : Program} {l : Launch} {e : Env} {s : State} {m : MethodId} {args : Array Value} {below : List Frame} {meth : Method} {c : Code} {a1 : Int32} {a2 : Int32} (C : qC ceC 96 ad cy X A D zs cX0_worthOn 5 RX0 wsX0_worthOn p s m args meth c (some .int)) (r0 : Int32) (σ0 : St) (n : Nat) : (∀ (v3 : Int32) (v4 : Int32) (σ : St), fX0_worthOn_L a1 a2 n v3 v4 σ = some (r0, σ0) → qVi ceC 96 ad cy X A D p l e (headSpec wsX0_worthOn rmX0_worthOn).room s m args below meth c 5 r0 σ0 5 [(0, .ref (ad 21)), (1, .int a1), (2, .int a2), (3, .int v3), (4, .int v4)] [] σ) := by
  induction n with
  | zero =>
    intro v3 v4 σ h; cases h
  | succ n ih =>
    intro v3 v4 σ h
    rw [fX0_worthOn_L] at h
    refine q_iload C dX0_worthOn_5 4 rfl ?_
    refine q_aload_n C dX0_worthOn_7 rfl 0 rfl ?_
    refine q_get C (Cn := RX0) (T := TX0) (Nf := 9) (ci := 0) (id := 21) (k := 8) (v := .int (σ.1 21 8)) nX0_worthOn_X0 (by decide) (ceC_21 ad cy _ _ _) rfl (by decide) rfl hX0_worthOn_36 dX0_worthOn_8 ?_
    refine q_icmp_ge C (tgt := 72) dX0_worthOn_11 (by decide) h (fun h => ?_) (fun h => ?_)
    · refine q_iload_n C dX0_worthOn_72 rfl 3 rfl ?_
      refine q_join (G := fun (y81 : Int32) => qVi ceC 96 ad cy X A D p l e (headSpec wsX0_worthOn rmX0_worthOn).room s m args below meth c 5 r0 σ0 81 [] [.int y81] σ) h (fun y81 h => ?_) (fun j81 hj81 h => ?_)
      · exact q_iret C rfl dX0_worthOn_81 h
      refine q_if_ge C (tgt := 80) dX0_worthOn_73 (by decide) h (fun h => ?_) (fun h => ?_)
      · refine q_iload_n C dX0_worthOn_80 rfl 3 rfl ?_
        exact q_sub [] rfl (hj81 v3 h)
      · refine q_iconst C (v := 0) dX0_worthOn_76 (by decide) ?_
        refine q_goto C (tgt := 81) dX0_worthOn_77 (by decide) ?_
        exact q_sub [] rfl (hj81 (0 : Int32) h)
    · refine q_aload_n C dX0_worthOn_14 rfl 0 rfl ?_
      refine q_get C (Cn := RX0) (T := TX0) (Nf := 9) (ci := 0) (id := 21) (k := 4) (v := .ref (ad 31)) nX0_worthOn_X0 (by decide) (ceC_21 ad cy _ _ _) rfl (by decide) rfl hX0_worthOn_23 dX0_worthOn_15 ?_
      refine q_iload C dX0_worthOn_18 4 rfl ?_
      refine q_iald C (id := 31) (by decide) (ceC_31 ad cy _ _ _) dX0_worthOn_20 h (fun h => ?_)
      refine q_iload_n C dX0_worthOn_21 rfl 1 rfl ?_
      refine q_join (G := fun (y66 : Int32) => qVi ceC 96 ad cy X A D p l e (headSpec wsX0_worthOn rmX0_worthOn).room s m args below meth c 5 r0 σ0 66 [(0, .ref (ad 21)), (1, .int a1), (2, .int a2), (3, .int y66), (4, .int v4)] [] σ) h (fun y66 h => ?_) (fun j66 hj66 h => ?_)
      · refine q_iincL C dX0_worthOn_66 4 rfl (by decide) (nv := 1) (by decide) h (lw := fun x66 => [(0, .ref (ad 21)), (1, .int a1), (2, .int a2), (3, .int y66), (4, .int x66)]) (fun _ => rfl) (fun x66 h => ?_)
        refine q_goto C (tgt := 5) dX0_worthOn_69 (by decide) ?_
        exact q_sub [0, 1, 2, 3, 4] rfl (ih y66 x66 σ h)
      refine q_icmp_ne C (tgt := 66) dX0_worthOn_22 (by decide) h (fun h => ?_) (fun h => ?_)
      · exact q_sub [0, 1, 2, 3, 4] rfl (hj66 v3 h)
      · refine q_aload_n C dX0_worthOn_25 rfl 0 rfl ?_
        refine q_get C (Cn := RX0) (T := TX0) (Nf := 9) (ci := 0) (id := 21) (k := 1) (v := .ref (ad 22)) nX0_worthOn_X0 (by decide) (ceC_21 ad cy _ _ _) rfl (by decide) rfl hX0_worthOn_9 dX0_worthOn_26 ?_
        refine q_iload C dX0_worthOn_29 4 rfl ?_
        refine q_iald C (id := 22) (by decide) (ceC_22 ad cy _ _ _) dX0_worthOn_31 h (fun h => ?_)
        refine q_iload_n C dX0_worthOn_32 rfl 2 rfl ?_
        refine q_icmp_ge C (tgt := 66) dX0_worthOn_33 (by decide) h (fun h => ?_) (fun h => ?_)
        · exact q_sub [0, 1, 2, 3, 4] rfl (hj66 v3 h)
        · refine q_aload_n C dX0_worthOn_36 rfl 0 rfl ?_
          refine q_get C (Cn := RX0) (T := TX0) (Nf := 9) (ci := 0) (id := 21) (k := 5) (v := .ref (ad 32)) nX0_worthOn_X0 (by decide) (ceC_21 ad cy _ _ _) rfl (by decide) rfl hX0_worthOn_26 dX0_worthOn_37 ?_
          refine q_iload C dX0_worthOn_40 4 rfl ?_
          refine q_iald C (id := 32) (by decide) (ceC_32 ad cy _ _ _) dX0_worthOn_42 h (fun h => ?_)
          refine q_iconst C (v := 2) dX0_worthOn_43 (by decide) ?_
          refine q_icmp_ne C (tgt := 53) dX0_worthOn_44 (by decide) h (fun h => ?_) (fun h => ?_)
          · refine q_aload_n C dX0_worthOn_53 rfl 0 rfl ?_
            refine q_get C (Cn := RX0) (T := TX0) (Nf := 9) (ci := 0) (id := 21) (k := 5) (v := .ref (ad 32)) nX0_worthOn_X0 (by decide) (ceC_21 ad cy _ _ _) rfl (by decide) rfl hX0_worthOn_26 dX0_worthOn_54 ?_
            refine q_iload C dX0_worthOn_57 4 rfl ?_
            refine q_iald C (id := 32) (by decide) (ceC_32 ad cy _ _ _) dX0_worthOn_59 h (fun h => ?_)
            refine q_if_ne C (tgt := 66) dX0_worthOn_60 (by decide) h (fun h => ?_) (fun h => ?_)
            · exact q_sub [0, 1, 2, 3, 4] rfl (hj66 v3 h)
            · refine q_iincL C dX0_worthOn_63 3 rfl (by decide) (nv := -2) (by decide) h (lw := fun x63 => [(0, .ref (ad 21)), (1, .int a1), (2, .int a2), (3, .int x63), (4, .int v4)]) (fun _ => rfl) (fun x63 h => ?_)
              exact q_sub [0, 1, 2, 3, 4] rfl (hj66 x63 h)
          · refine q_iincL C dX0_worthOn_47 3 rfl (by decide) (nv := 1) (by decide) h (lw := fun x47 => [(0, .ref (ad 21)), (1, .int a1), (2, .int a2), (3, .int x47), (4, .int v4)]) (fun _ => rfl) (fun x47 h => ?_)
            refine q_goto C (tgt := 66) dX0_worthOn_50 (by decide) ?_
            exact q_sub [0, 1, 2, 3, 4] rfl (hj66 x47 h)
set_option maxHeartbeats 4000000 in
set_option maxRecDepth 100000 in
theorem kX0_worthOn (l : Launch) (D : va_G) (ad : Nat → Nat) (cy : Nat → ClassId) (X : va_W) (A : Nat → Prop) (zs : Nat × Nat × Option Nat) (σ : St) (a1 : Int32) (a2 : Int32) (r0 : Int32) (σ0 : St) (h : fX0_worthOn σ a1 a2 = some (r0, σ0)) : Met l yX0_worthOn wsX0_worthOn rmX0_worthOn (qPc ceC 96 ad cy X A D zs [.ref (ad 21), .int a1, .int a2] σ) (qQi ceC 96 ad cy X A D r0 σ0) 0 0 A := by
  refine Met.ofW (cc := cX0_worthOn) (maxL := 5) (ret := (some .int)) (by decide) rfl ?_
  intro p e s m args below meth c s₁ B hml hv
  obtain ⟨ha, hP, hK, hE, hD⟩ := hv
  have C : qC ceC 96 ad cy X A D zs cX0_worthOn 5 RX0 wsX0_worthOn p s m args meth c (some .int) := ⟨B.exec, B.bytes, hml, findClass_of_methodNamed B.named, atoms_spec (ws := wsX0_worthOn) B.pre, hK, hD, B.returns, B.notSynchronized, hE⟩
  rw [show entryFrame m args 5 = entryFrame m ([.ref (ad 21), .int a1, .int a2] : List Value).toArray 5 by rw [ha]]
  refine q_entry (A := A) (Nat.le_of_ble_eq_true rfl) hP (lv := [(0, .ref (ad 21)), (1, .int a1), (2, .int a2)]) rfl ?_
  unfold fX0_worthOn at h
  refine q_iconst C (v := 2) dX0_worthOn_0 (by decide) ?_
  refine q_istore_n C dX0_worthOn_1 rfl (by decide) (lv' := [(0, .ref (ad 21)), (1, .int a1), (2, .int a2), (3, .int (2 : Int32))]) rfl ?_
  refine q_iconst C (v := 0) dX0_worthOn_2 (by decide) ?_
  refine q_istore C dX0_worthOn_3 (by decide) (lv' := [(0, .ref (ad 21)), (1, .int a1), (2, .int a2), (3, .int (2 : Int32)), (4, .int (0 : Int32))]) rfl ?_
  exact q_sub [0, 1, 2, 3, 4] rfl ((kX0_worthOn_L C r0 σ0 100000) (2 : Int32) (0 : Int32) σ h)
abbrev rmX4_isNewsThere : Room := { frames := 0, cells := 0, slots := 0, locals := 0 }
theorem hyX4_isNewsThere : yX4_isNewsThere.cls = RX4 ∧ yX4_isNewsThere.cls ≠ "java/lang/invoke/MethodHandle" ∧ yX4_isNewsThere.cls ≠ "java/lang/invoke/VarHandle" ∧ (parseMethodDescriptor yX4_isNewsThere.desc).map (fun d => d.parameters.length) = some 4 := by decide +kernel
theorem nX4_isNewsThere_X4 : ∀ w ∈ u_ws RX4 TX4 8, w ∈ wsX4_isNewsThere := by decide +kernel
theorem hX4_isNewsThere_31 : Cond.fieldLink RX4 31 (TX4 5).1 (TX4 5).2.1 (TX4 5).2.2.1 ∈ wsX4_isNewsThere := by decide +kernel
def fX4_isNewsThere (σ : St) (a1 : Int32) (a2 : Int32) (a3 : Int32) (a4 : Int32) : Option (Int32 × St) := qix a1 6 (qix a2 6 (qlet (fun (y20 : Int32) => (qzz y20 (some (y20, σ)))) (fun j20 => (if a4 < (a3 + (σ.1 (15 + a1.toNatClampNeg) a2.toNatClampNeg)) then (j20 (0 : Int32)) else (j20 (1 : Int32))))))
set_option maxHeartbeats 4000000 in
set_option maxRecDepth 100000 in
theorem kX4_isNewsThere (l : Launch) (D : va_G) (ad : Nat → Nat) (cy : Nat → ClassId) (X : va_W) (A : Nat → Prop) (zs : Nat × Nat × Option Nat) (σ : St) (a1 : Int32) (a2 : Int32) (a3 : Int32) (a4 : Int32) (r0 : Int32) (σ0 : St) (h : fX4_isNewsThere σ a1 a2 a3 a4 = some (r0, σ0)) : Met l yX4_isNewsThere wsX4_isNewsThere rmX4_isNewsThere (qPc ceC 96 ad cy X A D zs [.ref (ad 2), .int a1, .int a2, .int a3, .int a4] σ) (qQi ceC 96 ad cy X A D r0 σ0) 0 0 A := by
  refine Met.ofW (cc := cX4_isNewsThere) (maxL := 5) (ret := (some .boolean)) (by decide) rfl ?_
  intro p e s m args below meth c s₁ B hml hv
  obtain ⟨ha, hP, hK, hE, hD⟩ := hv
  have C : qC ceC 96 ad cy X A D zs cX4_isNewsThere 5 RX4 wsX4_isNewsThere p s m args meth c (some .boolean) := ⟨B.exec, B.bytes, hml, findClass_of_methodNamed B.named, atoms_spec (ws := wsX4_isNewsThere) B.pre, hK, hD, B.returns, B.notSynchronized, hE⟩
  rw [show entryFrame m args 5 = entryFrame m ([.ref (ad 2), .int a1, .int a2, .int a3, .int a4] : List Value).toArray 5 by rw [ha]]
  refine q_entry (A := A) (Nat.le_of_ble_eq_true rfl) hP (lv := [(0, .ref (ad 2)), (1, .int a1), (2, .int a2), (3, .int a3), (4, .int a4)]) rfl ?_
  unfold fX4_isNewsThere at h
  refine q_iload_n C dX4_isNewsThere_0 rfl 3 rfl ?_
  refine q_aload_n C dX4_isNewsThere_1 rfl 0 rfl ?_
  refine q_get C (Cn := RX4) (T := TX4) (Nf := 8) (ci := 4) (id := 2) (k := 5) (v := .ref (ad 14)) nX4_isNewsThere_X4 (by decide) (ceC_2 ad cy _ _ _) rfl (by decide) rfl hX4_isNewsThere_31 dX4_isNewsThere_2 ?_
  refine q_iload_n C dX4_isNewsThere_5 rfl 1 rfl ?_
  refine q_aald C (id := 14) (t0 := 6) (by decide) (ceC_14 ad cy _ _ _) rfl rfl dX4_isNewsThere_6 h (fun _ => rfl) (fun hr6 h => ?_)
  refine q_iload_n C dX4_isNewsThere_7 rfl 2 rfl ?_
  refine q_iald C (id := (15 + a1.toNatClampNeg)) (by omega) (ceC_r15 ad cy _ _ _ hr6) dX4_isNewsThere_8 h (fun h => ?_)
  refine q_iadd C dX4_isNewsThere_9 ?_
  refine q_iload C dX4_isNewsThere_10 4 rfl ?_
  refine q_join (G := fun (y20 : Int32) => qVi ceC 96 ad cy X A D p l e (headSpec wsX4_isNewsThere rmX4_isNewsThere).room s m args below meth c 5 r0 σ0 20 [] [.int y20] σ) h (fun y20 h => ?_) (fun j20 hj20 h => ?_)
  · exact q_zret C rfl dX4_isNewsThere_20 h
  refine q_icmp_gt C (tgt := 19) dX4_isNewsThere_12 (by decide) h (fun h => ?_) (fun h => ?_)
  · refine q_iconst C (v := 0) dX4_isNewsThere_19 (by decide) ?_
    exact q_sub [] rfl (hj20 (0 : Int32) h)
  · refine q_iconst C (v := 1) dX4_isNewsThere_15 (by decide) ?_
    refine q_goto C (tgt := 20) dX4_isNewsThere_16 (by decide) ?_
    exact q_sub [] rfl (hj20 (1 : Int32) h)
abbrev rmX0_isHeard : Room := { frames := 1, cells := 0, slots := 0, locals := 24 }
theorem hyX0_isHeard : yX0_isHeard.cls = RX0 ∧ yX0_isHeard.cls ≠ "java/lang/invoke/MethodHandle" ∧ yX0_isHeard.cls ≠ "java/lang/invoke/VarHandle" ∧ (parseMethodDescriptor yX0_isHeard.desc).map (fun d => d.parameters.length) = some 4 := by decide +kernel
theorem nX0_isHeard_X0 : ∀ w ∈ u_ws RX0 TX0 9, w ∈ wsX0_isHeard := by decide +kernel
theorem hX0_isHeard_23 : Cond.fieldLink RX0 23 (TX0 4).1 (TX0 4).2.1 (TX0 4).2.2.1 ∈ wsX0_isHeard := by decide +kernel
theorem hX0_isHeard_9 : Cond.fieldLink RX0 9 (TX0 1).1 (TX0 1).2.1 (TX0 1).2.2.1 ∈ wsX0_isHeard := by decide +kernel
theorem hX0_isHeard_26 : Cond.fieldLink RX0 26 (TX0 5).1 (TX0 5).2.1 (TX0 5).2.2.1 ∈ wsX0_isHeard := by decide +kernel
theorem hX0_isHeard_39 : Cond.fieldLink RX0 39 (TX0 0).1 (TX0 0).2.1 (TX0 0).2.2.1 ∈ wsX0_isHeard := by decide +kernel
theorem hX0_isHeard_20 : Cond.fieldLink RX0 20 (TX0 3).1 (TX0 3).2.1 (TX0 3).2.2.1 ∈ wsX0_isHeard := by decide +kernel
def fX0_isHeard (σ : St) (a1 : Int32) (a2 : Int32) (a3 : Int32) (a4 : Int32) : Option (Int32 × St) := qix a1 300 (qlet (σ.1 31 a1.toNatClampNeg) (fun x6 => qix a1 300 (qlet (fun (y60 : Int32 × St) => (qzz y60.1 (some (y60.1, y60.2)))) (fun j60 => (qlet (fun (y59 : St) => (j60 ((0 : Int32), y59))) (fun j59 => (if (σ.1 22 a1.toNatClampNeg) = a4 then (if x6 = (-1 : Int32) then (j59 σ) else (qix a1 300 (if (σ.1 32 a1.toNatClampNeg) = (0 : Int32) then (j59 σ) else (qix x6 12 (qcall (fX4_isNewsThere σ (σ.1 30 x6.toNatClampNeg) a2 a4 a3) (fun r49 σ49 => if r49 = (0 : Int32) then (j59 σ49) else (j60 ((1 : Int32), σ49)))))))) else (j59 σ))))))))
set_option maxHeartbeats 4000000 in
set_option maxRecDepth 100000 in
theorem kX0_isHeard (l : Launch) (D : va_G) (ad : Nat → Nat) (cy : Nat → ClassId) (X : va_W) (A : Nat → Prop) (zs : Nat × Nat × Option Nat) (σ : St) (a1 : Int32) (a2 : Int32) (a3 : Int32) (a4 : Int32) (r0 : Int32) (σ0 : St) (h : fX0_isHeard σ a1 a2 a3 a4 = some (r0, σ0)) : Met l yX0_isHeard wsX0_isHeard rmX0_isHeard (qPc ceC 96 ad cy X A D zs [.ref (ad 21), .int a1, .int a2, .int a3, .int a4] σ) (qQi ceC 96 ad cy X A D r0 σ0) 0 0 A := by
  refine Met.ofW (cc := cX0_isHeard) (maxL := 6) (ret := (some .boolean)) (by decide) rfl ?_
  intro p e s m args below meth c s₁ B hml hv
  obtain ⟨ha, hP, hK, hE, hD⟩ := hv
  have C : qC ceC 96 ad cy X A D zs cX0_isHeard 6 RX0 wsX0_isHeard p s m args meth c (some .boolean) := ⟨B.exec, B.bytes, hml, findClass_of_methodNamed B.named, atoms_spec (ws := wsX0_isHeard) B.pre, hK, hD, B.returns, B.notSynchronized, hE⟩
  rw [show entryFrame m args 6 = entryFrame m ([.ref (ad 21), .int a1, .int a2, .int a3, .int a4] : List Value).toArray 6 by rw [ha]]
  refine q_entry (A := A) (Nat.le_of_ble_eq_true rfl) hP (lv := [(0, .ref (ad 21)), (1, .int a1), (2, .int a2), (3, .int a3), (4, .int a4)]) rfl ?_
  unfold fX0_isHeard at h
  refine q_aload_n C dX0_isHeard_0 rfl 0 rfl ?_
  refine q_get C (Cn := RX0) (T := TX0) (Nf := 9) (ci := 0) (id := 21) (k := 4) (v := .ref (ad 31)) nX0_isHeard_X0 (by decide) (ceC_21 ad cy _ _ _) rfl (by decide) rfl hX0_isHeard_23 dX0_isHeard_1 ?_
  refine q_iload_n C dX0_isHeard_4 rfl 1 rfl ?_
  refine q_iald C (id := 31) (by decide) (ceC_31 ad cy _ _ _) dX0_isHeard_5 h (fun h => ?_)
  refine q_istoreL C dX0_isHeard_6 (by decide) h (lw := fun x6 => [(0, .ref (ad 21)), (1, .int a1), (2, .int a2), (3, .int a3), (4, .int a4), (5, .int x6)]) (fun _ => rfl) (fun x6 h => ?_)
  refine q_aload_n C dX0_isHeard_8 rfl 0 rfl ?_
  refine q_get C (Cn := RX0) (T := TX0) (Nf := 9) (ci := 0) (id := 21) (k := 1) (v := .ref (ad 22)) nX0_isHeard_X0 (by decide) (ceC_21 ad cy _ _ _) rfl (by decide) rfl hX0_isHeard_9 dX0_isHeard_9 ?_
  refine q_iload_n C dX0_isHeard_12 rfl 1 rfl ?_
  refine q_iald C (id := 22) (by decide) (ceC_22 ad cy _ _ _) dX0_isHeard_13 h (fun h => ?_)
  refine q_iload C dX0_isHeard_14 4 rfl ?_
  refine q_join (G := fun (y60 : Int32 × St) => qVi ceC 96 ad cy X A D p l e (headSpec wsX0_isHeard rmX0_isHeard).room s m args below meth c 6 r0 σ0 60 [] [.int y60.1] y60.2) h (fun y60 h => ?_) (fun j60 hj60 h => ?_)
  · exact q_zret C rfl dX0_isHeard_60 h
  refine q_join (G := fun (y59 : St) => qVi ceC 96 ad cy X A D p l e (headSpec wsX0_isHeard rmX0_isHeard).room s m args below meth c 6 r0 σ0 59 [] [] y59) h (fun y59 h => ?_) (fun j59 hj59 h => ?_)
  · refine q_iconst C (v := 0) dX0_isHeard_59 (by decide) ?_
    exact q_sub [] rfl (hj60 ((0 : Int32), y59) h)
  refine q_icmp_ne C (tgt := 59) dX0_isHeard_16 (by decide) h (fun h => ?_) (fun h => ?_)
  · exact q_sub [] rfl (hj59 σ h)
  · refine q_iload C dX0_isHeard_19 5 rfl ?_
    refine q_iconst C (v := -1) dX0_isHeard_21 (by decide) ?_
    refine q_icmp_eq C (tgt := 59) dX0_isHeard_22 (by decide) h (fun h => ?_) (fun h => ?_)
    · exact q_sub [] rfl (hj59 σ h)
    · refine q_aload_n C dX0_isHeard_25 rfl 0 rfl ?_
      refine q_get C (Cn := RX0) (T := TX0) (Nf := 9) (ci := 0) (id := 21) (k := 5) (v := .ref (ad 32)) nX0_isHeard_X0 (by decide) (ceC_21 ad cy _ _ _) rfl (by decide) rfl hX0_isHeard_26 dX0_isHeard_26 ?_
      refine q_iload_n C dX0_isHeard_29 rfl 1 rfl ?_
      refine q_iald C (id := 32) (by decide) (ceC_32 ad cy _ _ _) dX0_isHeard_30 h (fun h => ?_)
      refine q_if_eq C (tgt := 59) dX0_isHeard_31 (by decide) h (fun h => ?_) (fun h => ?_)
      · exact q_sub [] rfl (hj59 σ h)
      · refine q_aload_n C dX0_isHeard_34 rfl 0 rfl ?_
        refine q_get C (Cn := RX0) (T := TX0) (Nf := 9) (ci := 0) (id := 21) (k := 0) (v := .ref (ad 2)) nX0_isHeard_X0 (by decide) (ceC_21 ad cy _ _ _) rfl (by decide) rfl hX0_isHeard_39 dX0_isHeard_35 ?_
        refine q_aload_n C dX0_isHeard_38 rfl 0 rfl ?_
        refine q_get C (Cn := RX0) (T := TX0) (Nf := 9) (ci := 0) (id := 21) (k := 3) (v := .ref (ad 30)) nX0_isHeard_X0 (by decide) (ceC_21 ad cy _ _ _) rfl (by decide) rfl hX0_isHeard_20 dX0_isHeard_39 ?_
        refine q_iload C dX0_isHeard_42 5 rfl ?_
        refine q_iald C (id := 30) (by decide) (ceC_30 ad cy _ _ _) dX0_isHeard_44 h (fun h => ?_)
        refine q_iload_n C dX0_isHeard_45 rfl 2 rfl ?_
        refine q_iload C dX0_isHeard_46 4 rfl ?_
        refine q_iload_n C dX0_isHeard_48 rfl 3 rfl ?_
        refine q_callVi C (rm := rmX4_isNewsThere) (As := [.int (σ.1 30 x6.toNatClampNeg), .int a2, .int a4, .int a3]) (rest := []) (id := 2) (ci := 4) (fun r9 σ9 h9 => kX4_isNewsThere l D ad cy X A zs σ (σ.1 30 x6.toNatClampNeg) a2 a4 a3 r9 σ9 h9) gX0_isHeard_X4_isNewsThere rfl rfl rfl hyX4_isNewsThere ⟨Nat.le_of_ble_eq_true rfl, Nat.le_of_ble_eq_true rfl⟩ (by decide) (ceC_2 ad cy _ _ _) rfl rfl rfl (Nat.le_of_ble_eq_true rfl) dX0_isHeard_49 ⟨Nat.zero_le _, Nat.zero_le _⟩ h (fun r49 σ49 h => ?_)
        refine q_if_eq C (tgt := 59) dX0_isHeard_52 (by decide) h (fun h => ?_) (fun h => ?_)
        · exact q_sub [] rfl (hj59 σ49 h)
        · refine q_iconst C (v := 1) dX0_isHeard_55 (by decide) ?_
          refine q_goto C (tgt := 60) dX0_isHeard_56 (by decide) ?_
          exact q_sub [] rfl (hj60 ((1 : Int32), σ49) h)
abbrev rmX3_hasRule : Room := { frames := 0, cells := 0, slots := 0, locals := 0 }
theorem hyX3_hasRule : yX3_hasRule.cls = RX3 ∧ yX3_hasRule.cls ≠ "java/lang/invoke/MethodHandle" ∧ yX3_hasRule.cls ≠ "java/lang/invoke/VarHandle" ∧ (parseMethodDescriptor yX3_hasRule.desc).map (fun d => d.parameters.length) = some 1 := by decide +kernel
theorem nX3_hasRule_X3 : ∀ w ∈ u_ws RX3 TX3 6, w ∈ wsX3_hasRule := by decide +kernel
theorem hX3_hasRule_28 : Cond.fieldLink RX3 28 (TX3 5).1 (TX3 5).2.1 (TX3 5).2.2.1 ∈ wsX3_hasRule := by decide +kernel
theorem hX3_hasRule_9 : Cond.fieldLink RX3 9 (TX3 0).1 (TX3 0).2.1 (TX3 0).2.2.1 ∈ wsX3_hasRule := by decide +kernel
def fX3_hasRule_L (t : Nat) (a1 : Int32) : Nat → Int32 → St → Option (Int32 × St)
  | 0, _, _ => none
  | n + 1, v2, σ => if (σ.1 (61 + 5 * t) 5) ≤ v2 then (qzz (0 : Int32) (some ((0 : Int32), σ))) else (qix v2 12 (if (σ.1 (61 + 5 * t + 1) v2.toNatClampNeg) = a1 then (qzz (1 : Int32) (some ((1 : Int32), σ))) else (qlet (v2 + (1 : Int32)) (fun x22 => fX3_hasRule_L t a1 n x22 σ))))
def fX3_hasRule (σ : St) (t : Nat) (a1 : Int32) : Option (Int32 × St) := fX3_hasRule_L t a1 100000 (0 : Int32) σ
set_option maxHeartbeats 4000000 in
set_option maxRecDepth 100000 in
theorem kX3_hasRule_L {ad : Nat → Nat} {cy : Nat → ClassId} {X : va_W} {A : Nat → Prop} {D : va_G} {zs : Nat × Nat × Option Nat} {p : Program} {l : Launch} {e : Env} {s : State} {m : MethodId} {args : Array Value} {below : List Frame} {meth : Method} {c : Code} {t : Nat} {a1 : Int32} (C : qC ceC 96 ad cy X A D zs cX3_hasRule 3 RX3 wsX3_hasRule p s m args meth c (some .boolean)) (r0 : Int32) (σ0 : St) (n : Nat) (ht : t < 7) : (∀ (v2 : Int32) (σ : St), fX3_hasRule_L t a1 n v2 σ = some (r0, σ0) → qVi ceC 96 ad cy X A D p l e (headSpec wsX3_hasRule rmX3_hasRule).room s m args below meth c 3 r0 σ0 2 [(0, .ref (ad (61 + 5 * t))), (1, .int a1), (2, .int v2)] [] σ) := by
  induction n with
  | zero =>
    intro v2 σ h; cases h
  | succ n ih =>
    intro v2 σ h
    rw [fX3_hasRule_L] at h
    refine q_iload_n C dX3_hasRule_2 rfl 2 rfl ?_
    refine q_aload_n C dX3_hasRule_3 rfl 0 rfl ?_
    refine q_get C (Cn := RX3) (T := TX3) (Nf := 6) (ci := 3) (id := (61 + 5 * t)) (k := 5) (v := .int (σ.1 (61 + 5 * t) 5)) nX3_hasRule_X3 (by omega) (ceC_t0 ad cy _ _ _ t) rfl (by decide) rfl hX3_hasRule_28 dX3_hasRule_4 ?_
    refine q_icmp_ge C (tgt := 28) dX3_hasRule_7 (by decide) h (fun h => ?_) (fun h => ?_)
    · refine q_iconst C (v := 0) dX3_hasRule_28 (by decide) ?_
      exact q_zret C rfl dX3_hasRule_29 h
    · refine q_aload_n C dX3_hasRule_10 rfl 0 rfl ?_
      refine q_get C (Cn := RX3) (T := TX3) (Nf := 6) (ci := 3) (id := (61 + 5 * t)) (k := 0) (v := .ref (ad (61 + 5 * t + 1))) nX3_hasRule_X3 (by omega) (ceC_t0 ad cy _ _ _ t) rfl (by decide) rfl hX3_hasRule_9 dX3_hasRule_11 ?_
      refine q_iload_n C dX3_hasRule_14 rfl 2 rfl ?_
      refine q_iald C (id := (61 + 5 * t + 1)) (by omega) (ceC_t1 ad cy _ _ _ t) dX3_hasRule_15 h (fun h => ?_)
      refine q_iload_n C dX3_hasRule_16 rfl 1 rfl ?_
      refine q_icmp_ne C (tgt := 22) dX3_hasRule_17 (by decide) h (fun h => ?_) (fun h => ?_)
      · refine q_iincL C dX3_hasRule_22 2 rfl (by decide) (nv := 1) (by decide) h (lw := fun x22 => [(0, .ref (ad (61 + 5 * t))), (1, .int a1), (2, .int x22)]) (fun _ => rfl) (fun x22 h => ?_)
        refine q_goto C (tgt := 2) dX3_hasRule_25 (by decide) ?_
        exact q_sub [0, 1, 2] rfl (ih x22 σ h)
      · refine q_iconst C (v := 1) dX3_hasRule_20 (by decide) ?_
        exact q_zret C rfl dX3_hasRule_21 h
set_option maxHeartbeats 4000000 in
set_option maxRecDepth 100000 in
theorem kX3_hasRule (l : Launch) (D : va_G) (ad : Nat → Nat) (cy : Nat → ClassId) (X : va_W) (A : Nat → Prop) (zs : Nat × Nat × Option Nat) (σ : St) (t : Nat) (a1 : Int32) (ht : t < 7) (r0 : Int32) (σ0 : St) (h : fX3_hasRule σ t a1 = some (r0, σ0)) : Met l yX3_hasRule wsX3_hasRule rmX3_hasRule (qPc ceC 96 ad cy X A D zs [.ref (ad (61 + 5 * t)), .int a1] σ) (qQi ceC 96 ad cy X A D r0 σ0) 0 0 A := by
  refine Met.ofW (cc := cX3_hasRule) (maxL := 3) (ret := (some .boolean)) (by decide) rfl ?_
  intro p e s m args below meth c s₁ B hml hv
  obtain ⟨ha, hP, hK, hE, hD⟩ := hv
  have C : qC ceC 96 ad cy X A D zs cX3_hasRule 3 RX3 wsX3_hasRule p s m args meth c (some .boolean) := ⟨B.exec, B.bytes, hml, findClass_of_methodNamed B.named, atoms_spec (ws := wsX3_hasRule) B.pre, hK, hD, B.returns, B.notSynchronized, hE⟩
  rw [show entryFrame m args 3 = entryFrame m ([.ref (ad (61 + 5 * t)), .int a1] : List Value).toArray 3 by rw [ha]]
  refine q_entry (A := A) (Nat.le_of_ble_eq_true rfl) hP (lv := [(0, .ref (ad (61 + 5 * t))), (1, .int a1)]) rfl ?_
  unfold fX3_hasRule at h
  refine q_iconst C (v := 0) dX3_hasRule_0 (by decide) ?_
  refine q_istore_n C dX3_hasRule_1 rfl (by decide) (lv' := [(0, .ref (ad (61 + 5 * t))), (1, .int a1), (2, .int (0 : Int32))]) rfl ?_
  exact q_sub [0, 1, 2] rfl ((kX3_hasRule_L C r0 σ0 100000 ht) (0 : Int32) σ h)
abbrev rmX3_isVar : Room := { frames := 0, cells := 0, slots := 0, locals := 0 }
theorem hyX3_isVar : yX3_isVar.cls ≠ "java/lang/invoke/MethodHandle" ∧ yX3_isVar.cls ≠ "java/lang/invoke/VarHandle" ∧ (parseMethodDescriptor yX3_isVar.desc).map (fun d => d.parameters.length) = some 1 := by decide +kernel
def fX3_isVar (σ : St) (a0 : Int32) : Option (Int32 × St) := qlet (fun (y17 : Int32) => (qzz y17 (some (y17, σ)))) (fun j17 => (qlet (fun (y16 : Unit) => (j17 (0 : Int32))) (fun j16 => (if a0 < (6 : Int32) then (j16 ()) else (if (13 : Int32) < a0 then (j16 ()) else (j17 (1 : Int32)))))))
set_option maxHeartbeats 4000000 in
set_option maxRecDepth 100000 in
theorem kX3_isVar (l : Launch) (D : va_G) (ad : Nat → Nat) (cy : Nat → ClassId) (X : va_W) (A : Nat → Prop) (zs : Nat × Nat × Option Nat) (σ : St) (a0 : Int32) (r0 : Int32) (σ0 : St) (h : fX3_isVar σ a0 = some (r0, σ0)) : Met l yX3_isVar wsX3_isVar rmX3_isVar (qPc ceC 96 ad cy X A D zs [.int a0] σ) (qQi ceC 96 ad cy X A D r0 σ0) 0 0 A := by
  refine Met.ofW (cc := cX3_isVar) (maxL := 1) (ret := (some .boolean)) (by decide) rfl ?_
  intro p e s m args below meth c s₁ B hml hv
  obtain ⟨ha, hP, hK, hE, hD⟩ := hv
  have C : qC ceC 96 ad cy X A D zs cX3_isVar 1 RX3 wsX3_isVar p s m args meth c (some .boolean) := ⟨B.exec, B.bytes, hml, findClass_of_methodNamed B.named, atoms_spec (ws := wsX3_isVar) B.pre, hK, hD, B.returns, B.notSynchronized, hE⟩
  rw [show entryFrame m args 1 = entryFrame m ([.int a0] : List Value).toArray 1 by rw [ha]]
  refine q_entry (A := A) (Nat.le_of_ble_eq_true rfl) hP (lv := [(0, .int a0)]) rfl ?_
  unfold fX3_isVar at h
  refine q_iload_n C dX3_isVar_0 rfl 0 rfl ?_
  refine q_bipush C (v := 6) dX3_isVar_1 (by decide) ?_
  refine q_join (G := fun (y17 : Int32) => qVi ceC 96 ad cy X A D p l e (headSpec wsX3_isVar rmX3_isVar).room s m args below meth c 1 r0 σ0 17 [] [.int y17] σ) h (fun y17 h => ?_) (fun j17 hj17 h => ?_)
  · exact q_zret C rfl dX3_isVar_17 h
  refine q_join (G := fun (y16 : Unit) => qVi ceC 96 ad cy X A D p l e (headSpec wsX3_isVar rmX3_isVar).room s m args below meth c 1 r0 σ0 16 [] [] σ) h (fun y16 h => ?_) (fun j16 hj16 h => ?_)
  · refine q_iconst C (v := 0) dX3_isVar_16 (by decide) ?_
    exact q_sub [] rfl (hj17 (0 : Int32) h)
  refine q_icmp_lt C (tgt := 16) dX3_isVar_3 (by decide) h (fun h => ?_) (fun h => ?_)
  · exact q_sub [] rfl (hj16 () h)
  · refine q_iload_n C dX3_isVar_6 rfl 0 rfl ?_
    refine q_bipush C (v := 13) dX3_isVar_7 (by decide) ?_
    refine q_icmp_gt C (tgt := 16) dX3_isVar_9 (by decide) h (fun h => ?_) (fun h => ?_)
    · exact q_sub [] rfl (hj16 () h)
    · refine q_iconst C (v := 1) dX3_isVar_12 (by decide) ?_
      refine q_goto C (tgt := 17) dX3_isVar_13 (by decide) ?_
      exact q_sub [] rfl (hj17 (1 : Int32) h)
abbrev rmX3_apply : Room := { frames := 0, cells := 0, slots := 0, locals := 0 }
theorem hyX3_apply : yX3_apply.cls ≠ "java/lang/invoke/MethodHandle" ∧ yX3_apply.cls ≠ "java/lang/invoke/VarHandle" ∧ (parseMethodDescriptor yX3_apply.desc).map (fun d => d.parameters.length) = some 3 := by decide +kernel
def fX3_apply (σ : St) (a0 : Int32) (a1 : Int32) (a2 : Int32) : Option (Int32 × St) := if a0 = (4 : Int32) then (some ((a1 ||| a2), σ)) else (if a0 = (5 : Int32) then (some ((a1 &&& a2), σ)) else (if a0 = (16 : Int32) then (some ((a1 + a2), σ)) else (if a0 = (17 : Int32) then (some ((a1 - a2), σ)) else (if a0 = (18 : Int32) then (some ((a1 * a2), σ)) else (if a0 = (19 : Int32) then (qlet (fun (y114 : Int32) => (some (y114, σ))) (fun j114 => (if a1 = a2 then (j114 (1 : Int32)) else (j114 (0 : Int32))))) else (if a0 = (20 : Int32) then (qlet (fun (y125 : Int32) => (some (y125, σ))) (fun j125 => (if a1 = a2 then (j125 (0 : Int32)) else (j125 (1 : Int32))))) else (if a0 = (21 : Int32) then (qlet (fun (y136 : Int32) => (some (y136, σ))) (fun j136 => (if a2 ≤ a1 then (j136 (0 : Int32)) else (j136 (1 : Int32))))) else (if a0 = (22 : Int32) then (qlet (fun (y147 : Int32) => (some (y147, σ))) (fun j147 => (if a2 < a1 then (j147 (0 : Int32)) else (j147 (1 : Int32))))) else (some ((0 : Int32), σ))))))))))
set_option maxHeartbeats 4000000 in
set_option maxRecDepth 100000 in
theorem kX3_apply (l : Launch) (D : va_G) (ad : Nat → Nat) (cy : Nat → ClassId) (X : va_W) (A : Nat → Prop) (zs : Nat × Nat × Option Nat) (σ : St) (a0 : Int32) (a1 : Int32) (a2 : Int32) (r0 : Int32) (σ0 : St) (h : fX3_apply σ a0 a1 a2 = some (r0, σ0)) : Met l yX3_apply wsX3_apply rmX3_apply (qPc ceC 96 ad cy X A D zs [.int a0, .int a1, .int a2] σ) (qQi ceC 96 ad cy X A D r0 σ0) 0 0 A := by
  refine Met.ofW (cc := cX3_apply) (maxL := 3) (ret := (some .int)) (by decide) rfl ?_
  intro p e s m args below meth c s₁ B hml hv
  obtain ⟨ha, hP, hK, hE, hD⟩ := hv
  have C : qC ceC 96 ad cy X A D zs cX3_apply 3 RX3 wsX3_apply p s m args meth c (some .int) := ⟨B.exec, B.bytes, hml, findClass_of_methodNamed B.named, atoms_spec (ws := wsX3_apply) B.pre, hK, hD, B.returns, B.notSynchronized, hE⟩
  rw [show entryFrame m args 3 = entryFrame m ([.int a0, .int a1, .int a2] : List Value).toArray 3 by rw [ha]]
  refine q_entry (A := A) (Nat.le_of_ble_eq_true rfl) hP (lv := [(0, .int a0), (1, .int a1), (2, .int a2)]) rfl ?_
  unfold fX3_apply at h
  refine q_iload_n C dX3_apply_0 rfl 0 rfl ?_
  refine q_swc h (fun e1_4 h => ?_) (fun n1_4 h => ?_)
  · refine q_tabIn C dX3_apply_1 (z := 4) (tgt := 152) (by rw [e1_4]; decide) (by decide) (by decide) rfl (by decide) ?_
    refine q_iload_n C dX3_apply_152 rfl 1 rfl ?_
    refine q_iload_n C dX3_apply_153 rfl 2 rfl ?_
    refine q_ior C dX3_apply_154 ?_
    exact q_iret C rfl dX3_apply_155 h
  refine q_swc h (fun e1_5 h => ?_) (fun n1_5 h => ?_)
  · refine q_tabIn C dX3_apply_1 (z := 5) (tgt := 148) (by rw [e1_5]; decide) (by decide) (by decide) rfl (by decide) ?_
    refine q_iload_n C dX3_apply_148 rfl 1 rfl ?_
    refine q_iload_n C dX3_apply_149 rfl 2 rfl ?_
    refine q_iand C dX3_apply_150 ?_
    exact q_iret C rfl dX3_apply_151 h
  refine q_swc h (fun e1_16 h => ?_) (fun n1_16 h => ?_)
  · refine q_tabIn C dX3_apply_1 (z := 16) (tgt := 92) (by rw [e1_16]; decide) (by decide) (by decide) rfl (by decide) ?_
    refine q_iload_n C dX3_apply_92 rfl 1 rfl ?_
    refine q_iload_n C dX3_apply_93 rfl 2 rfl ?_
    refine q_iadd C dX3_apply_94 ?_
    exact q_iret C rfl dX3_apply_95 h
  refine q_swc h (fun e1_17 h => ?_) (fun n1_17 h => ?_)
  · refine q_tabIn C dX3_apply_1 (z := 17) (tgt := 96) (by rw [e1_17]; decide) (by decide) (by decide) rfl (by decide) ?_
    refine q_iload_n C dX3_apply_96 rfl 1 rfl ?_
    refine q_iload_n C dX3_apply_97 rfl 2 rfl ?_
    refine q_isub C dX3_apply_98 ?_
    exact q_iret C rfl dX3_apply_99 h
  refine q_swc h (fun e1_18 h => ?_) (fun n1_18 h => ?_)
  · refine q_tabIn C dX3_apply_1 (z := 18) (tgt := 100) (by rw [e1_18]; decide) (by decide) (by decide) rfl (by decide) ?_
    refine q_iload_n C dX3_apply_100 rfl 1 rfl ?_
    refine q_iload_n C dX3_apply_101 rfl 2 rfl ?_
    refine q_imul C dX3_apply_102 ?_
    exact q_iret C rfl dX3_apply_103 h
  refine q_swc h (fun e1_19 h => ?_) (fun n1_19 h => ?_)
  · refine q_tabIn C dX3_apply_1 (z := 19) (tgt := 104) (by rw [e1_19]; decide) (by decide) (by decide) rfl (by decide) ?_
    refine q_iload_n C dX3_apply_104 rfl 1 rfl ?_
    refine q_iload_n C dX3_apply_105 rfl 2 rfl ?_
    refine q_join (G := fun (y114 : Int32) => qVi ceC 96 ad cy X A D p l e (headSpec wsX3_apply rmX3_apply).room s m args below meth c 3 r0 σ0 114 [] [.int y114] σ) h (fun y114 h => ?_) (fun j114 hj114 h => ?_)
    · exact q_iret C rfl dX3_apply_114 h
    refine q_icmp_ne C (tgt := 113) dX3_apply_106 (by decide) h (fun h => ?_) (fun h => ?_)
    · refine q_iconst C (v := 0) dX3_apply_113 (by decide) ?_
      exact q_sub [] rfl (hj114 (0 : Int32) h)
    · refine q_iconst C (v := 1) dX3_apply_109 (by decide) ?_
      refine q_goto C (tgt := 114) dX3_apply_110 (by decide) ?_
      exact q_sub [] rfl (hj114 (1 : Int32) h)
  refine q_swc h (fun e1_20 h => ?_) (fun n1_20 h => ?_)
  · refine q_tabIn C dX3_apply_1 (z := 20) (tgt := 115) (by rw [e1_20]; decide) (by decide) (by decide) rfl (by decide) ?_
    refine q_iload_n C dX3_apply_115 rfl 1 rfl ?_
    refine q_iload_n C dX3_apply_116 rfl 2 rfl ?_
    refine q_join (G := fun (y125 : Int32) => qVi ceC 96 ad cy X A D p l e (headSpec wsX3_apply rmX3_apply).room s m args below meth c 3 r0 σ0 125 [] [.int y125] σ) h (fun y125 h => ?_) (fun j125 hj125 h => ?_)
    · exact q_iret C rfl dX3_apply_125 h
    refine q_icmp_eq C (tgt := 124) dX3_apply_117 (by decide) h (fun h => ?_) (fun h => ?_)
    · refine q_iconst C (v := 0) dX3_apply_124 (by decide) ?_
      exact q_sub [] rfl (hj125 (0 : Int32) h)
    · refine q_iconst C (v := 1) dX3_apply_120 (by decide) ?_
      refine q_goto C (tgt := 125) dX3_apply_121 (by decide) ?_
      exact q_sub [] rfl (hj125 (1 : Int32) h)
  refine q_swc h (fun e1_21 h => ?_) (fun n1_21 h => ?_)
  · refine q_tabIn C dX3_apply_1 (z := 21) (tgt := 126) (by rw [e1_21]; decide) (by decide) (by decide) rfl (by decide) ?_
    refine q_iload_n C dX3_apply_126 rfl 1 rfl ?_
    refine q_iload_n C dX3_apply_127 rfl 2 rfl ?_
    refine q_join (G := fun (y136 : Int32) => qVi ceC 96 ad cy X A D p l e (headSpec wsX3_apply rmX3_apply).room s m args below meth c 3 r0 σ0 136 [] [.int y136] σ) h (fun y136 h => ?_) (fun j136 hj136 h => ?_)
    · exact q_iret C rfl dX3_apply_136 h
    refine q_icmp_ge C (tgt := 135) dX3_apply_128 (by decide) h (fun h => ?_) (fun h => ?_)
    · refine q_iconst C (v := 0) dX3_apply_135 (by decide) ?_
      exact q_sub [] rfl (hj136 (0 : Int32) h)
    · refine q_iconst C (v := 1) dX3_apply_131 (by decide) ?_
      refine q_goto C (tgt := 136) dX3_apply_132 (by decide) ?_
      exact q_sub [] rfl (hj136 (1 : Int32) h)
  refine q_swc h (fun e1_22 h => ?_) (fun n1_22 h => ?_)
  · refine q_tabIn C dX3_apply_1 (z := 22) (tgt := 137) (by rw [e1_22]; decide) (by decide) (by decide) rfl (by decide) ?_
    refine q_iload_n C dX3_apply_137 rfl 1 rfl ?_
    refine q_iload_n C dX3_apply_138 rfl 2 rfl ?_
    refine q_join (G := fun (y147 : Int32) => qVi ceC 96 ad cy X A D p l e (headSpec wsX3_apply rmX3_apply).room s m args below meth c 3 r0 σ0 147 [] [.int y147] σ) h (fun y147 h => ?_) (fun j147 hj147 h => ?_)
    · exact q_iret C rfl dX3_apply_147 h
    refine q_icmp_gt C (tgt := 146) dX3_apply_139 (by decide) h (fun h => ?_) (fun h => ?_)
    · refine q_iconst C (v := 0) dX3_apply_146 (by decide) ?_
      exact q_sub [] rfl (hj147 (0 : Int32) h)
    · refine q_iconst C (v := 1) dX3_apply_142 (by decide) ?_
      refine q_goto C (tgt := 147) dX3_apply_143 (by decide) ?_
      exact q_sub [] rfl (hj147 (1 : Int32) h)
  have hdf1 : qVi ceC 96 ad cy X A D p l e (headSpec wsX3_apply rmX3_apply).room s m args below meth c 3 r0 σ0 156 [(0, .int a0), (1, .int a1), (2, .int a2)] [] σ := by
    refine q_iconst C (v := 0) dX3_apply_156 (by decide) ?_
    exact q_iret C rfl dX3_apply_157 h
  have zn1_4 := q_neI (z := 4) n1_4 (by decide)
  have zn1_5 := q_neI (z := 5) n1_5 (by decide)
  have zn1_16 := q_neI (z := 16) n1_16 (by decide)
  have zn1_17 := q_neI (z := 17) n1_17 (by decide)
  have zn1_18 := q_neI (z := 18) n1_18 (by decide)
  have zn1_19 := q_neI (z := 19) n1_19 (by decide)
  have zn1_20 := q_neI (z := 20) n1_20 (by decide)
  have zn1_21 := q_neI (z := 21) n1_21 (by decide)
  have zn1_22 := q_neI (z := 22) n1_22 (by decide)
  rcases (show (a0).toInt < 4 ∨ 22 < (a0).toInt ∨ (a0).toInt = 6 ∨ (a0).toInt = 7 ∨ (a0).toInt = 8 ∨ (a0).toInt = 9 ∨ (a0).toInt = 10 ∨ (a0).toInt = 11 ∨ (a0).toInt = 12 ∨ (a0).toInt = 13 ∨ (a0).toInt = 14 ∨ (a0).toInt = 15 by omega) with q | q | q | q | q | q | q | q | q | q | q | q
  · exact q_tabOut C dX3_apply_1 (tgt := 156) (Or.inl q) (by decide) hdf1
  · exact q_tabOut C dX3_apply_1 (tgt := 156) (Or.inr q) (by decide) hdf1
  · exact q_tabIn C dX3_apply_1 (z := 6) (tgt := 156) q (by decide) (by decide) rfl (by decide) hdf1
  · exact q_tabIn C dX3_apply_1 (z := 7) (tgt := 156) q (by decide) (by decide) rfl (by decide) hdf1
  · exact q_tabIn C dX3_apply_1 (z := 8) (tgt := 156) q (by decide) (by decide) rfl (by decide) hdf1
  · exact q_tabIn C dX3_apply_1 (z := 9) (tgt := 156) q (by decide) (by decide) rfl (by decide) hdf1
  · exact q_tabIn C dX3_apply_1 (z := 10) (tgt := 156) q (by decide) (by decide) rfl (by decide) hdf1
  · exact q_tabIn C dX3_apply_1 (z := 11) (tgt := 156) q (by decide) (by decide) rfl (by decide) hdf1
  · exact q_tabIn C dX3_apply_1 (z := 12) (tgt := 156) q (by decide) (by decide) rfl (by decide) hdf1
  · exact q_tabIn C dX3_apply_1 (z := 13) (tgt := 156) q (by decide) (by decide) rfl (by decide) hdf1
  · exact q_tabIn C dX3_apply_1 (z := 14) (tgt := 156) q (by decide) (by decide) rfl (by decide) hdf1
  · exact q_tabIn C dX3_apply_1 (z := 15) (tgt := 156) q (by decide) (by decide) rfl (by decide) hdf1
abbrev rmX3_holds : Room := { frames := 1, cells := 0, slots := 0, locals := 22 }
theorem hyX3_holds : yX3_holds.cls = RX3 ∧ yX3_holds.cls ≠ "java/lang/invoke/MethodHandle" ∧ yX3_holds.cls ≠ "java/lang/invoke/VarHandle" ∧ (parseMethodDescriptor yX3_holds.desc).map (fun d => d.parameters.length) = some 2 := by decide +kernel
theorem nX3_holds_X3 : ∀ w ∈ u_ws RX3 TX3 6, w ∈ wsX3_holds := by decide +kernel
theorem hX3_holds_15 : Cond.fieldLink RX3 15 (TX3 1).1 (TX3 1).2.1 (TX3 1).2.2.1 ∈ wsX3_holds := by decide +kernel
theorem hX3_holds_18 : Cond.fieldLink RX3 18 (TX3 2).1 (TX3 2).2.1 (TX3 2).2.2.1 ∈ wsX3_holds := by decide +kernel
theorem hX3_holds_21 : Cond.fieldLink RX3 21 (TX3 3).1 (TX3 3).2.1 (TX3 3).2.2.1 ∈ wsX3_holds := by decide +kernel
def fX3_holds_L (t : Nat) (a1 : Int32) : Nat → Int32 → Int32 → St → Option (Int32 × St)
  | 0, _, _, _ => none
  | n + 1, v3, v4, σ => qix a1 12 (if (σ.1 (61 + 5 * t + 2) a1.toNatClampNeg) ≤ v4 then (qlet (fun (y156 : Int32) => (qzz y156 (some (y156, σ)))) (fun j156 => (qlet (fun (y155 : Unit) => (j156 (0 : Int32))) (fun j155 => (if v3 = (1 : Int32) then (qix (0 : Int32) 32 (if (σ.1 (61 + 5 * t + 4) (0 : Int32).toNatClampNeg) = (0 : Int32) then (j155 ()) else (j156 (1 : Int32)))) else (j155 ())))))) else (qix v4 400 (qlet ((σ.1 (61 + 5 * t + 3) v4.toNatClampNeg) - (10000 : Int32)) (fun x42 => qlet (fun (y131 : Int32 × St) => (qlet (v4 + (1 : Int32)) (fun x131 => fX3_holds_L t a1 n y131.1 x131 y131.2))) (fun j131 => (qlet (fun (y97 : St) => (if (32 : Int32) ≤ v3 then (j131 (v3, y97)) else (qlet (fun (y127 : Int32) => (qix v3 32 (qlet (sI y97 (61 + 5 * t + 4) v3.toNatClampNeg y127) (fun σ127 => qlet (v3 + (1 : Int32)) (fun x128 => j131 (x128, σ127)))))) (fun j127 => (if (0 : Int32) ≤ x42 then (qix x42 14 (j127 (y97.1 59 x42.toNatClampNeg))) else (qix v4 400 (j127 (y97.1 (61 + 5 * t + 3) v4.toNatClampNeg)))))))) (fun j97 => (if x42 < (0 : Int32) then (j97 σ) else (qcall (fX3_isVar σ x42) (fun r51 σ51 => if r51 = (0 : Int32) then (if (2 : Int32) ≤ v3 then (qlet (v3 + (-1 : Int32)) (fun x64 => qix (x64 - (1 : Int32)) 32 (qix x64 32 (qcall (fX3_apply σ51 x42 (σ51.1 (61 + 5 * t + 4) (x64 - (1 : Int32)).toNatClampNeg) (σ51.1 (61 + 5 * t + 4) x64.toNatClampNeg)) (fun r90 σ90 => qix (x64 - (1 : Int32)) 32 (qlet (sI σ90 (61 + 5 * t + 4) (x64 - (1 : Int32)).toNatClampNeg r90) (fun σ93 => j131 (x64, σ93)))))))) else (qzz (0 : Int32) (some ((0 : Int32), σ51)))) else (j97 σ51)))))))))))
def fX3_holds (σ : St) (t : Nat) (a1 : Int32) : Option (Int32 × St) := qlet (fun (y18 : Int32) => (fX3_holds_L t a1 100000 (0 : Int32) y18 σ)) (fun j18 => (if a1 = (0 : Int32) then (j18 (0 : Int32)) else (qix (a1 - (1 : Int32)) 12 (j18 (σ.1 (61 + 5 * t + 2) (a1 - (1 : Int32)).toNatClampNeg)))))
set_option maxHeartbeats 4000000 in
set_option maxRecDepth 100000 in
theorem kX3_holds_L {ad : Nat → Nat} {cy : Nat → ClassId} {X : va_W} {A : Nat → Prop} {D : va_G} {zs : Nat × Nat × Option Nat} {p : Program} {l : Launch} {e : Env} {s : State} {m : MethodId} {args : Array Value} {below : List Frame} {meth : Method} {c : Code} {t : Nat} {a1 : Int32} (C : qC ceC 96 ad cy X A D zs cX3_holds 6 RX3 wsX3_holds p s m args meth c (some .boolean)) (r0 : Int32) (σ0 : St) (n : Nat) (ht : t < 7) : (∀ (v3 : Int32) (v4 : Int32) (σ : St), fX3_holds_L t a1 n v3 v4 σ = some (r0, σ0) → qVi ceC 96 ad cy X A D p l e (headSpec wsX3_holds rmX3_holds).room s m args below meth c 6 r0 σ0 20 [(0, .ref (ad (61 + 5 * t))), (1, .int a1), (2, .ref (ad 59)), (3, .int v3), (4, .int v4)] [] σ) := by
  induction n with
  | zero =>
    intro v3 v4 σ h; cases h
  | succ n ih =>
    intro v3 v4 σ h
    rw [fX3_holds_L] at h
    refine q_iload C dX3_holds_20 4 rfl ?_
    refine q_aload_n C dX3_holds_22 rfl 0 rfl ?_
    refine q_get C (Cn := RX3) (T := TX3) (Nf := 6) (ci := 3) (id := (61 + 5 * t)) (k := 1) (v := .ref (ad (61 + 5 * t + 2))) nX3_holds_X3 (by omega) (ceC_t0 ad cy _ _ _ t) rfl (by decide) rfl hX3_holds_15 dX3_holds_23 ?_
    refine q_iload_n C dX3_holds_26 rfl 1 rfl ?_
    refine q_iald C (id := (61 + 5 * t + 2)) (by omega) (ceC_t2 ad cy _ _ _ t) dX3_holds_27 h (fun h => ?_)
    refine q_icmp_ge C (tgt := 137) dX3_holds_28 (by decide) h (fun h => ?_) (fun h => ?_)
    · refine q_iload_n C dX3_holds_137 rfl 3 rfl ?_
      refine q_iconst C (v := 1) dX3_holds_138 (by decide) ?_
      refine q_join (G := fun (y156 : Int32) => qVi ceC 96 ad cy X A D p l e (headSpec wsX3_holds rmX3_holds).room s m args below meth c 6 r0 σ0 156 [] [.int y156] σ) h (fun y156 h => ?_) (fun j156 hj156 h => ?_)
      · exact q_zret C rfl dX3_holds_156 h
      refine q_join (G := fun (y155 : Unit) => qVi ceC 96 ad cy X A D p l e (headSpec wsX3_holds rmX3_holds).room s m args below meth c 6 r0 σ0 155 [] [] σ) h (fun y155 h => ?_) (fun j155 hj155 h => ?_)
      · refine q_iconst C (v := 0) dX3_holds_155 (by decide) ?_
        exact q_sub [] rfl (hj156 (0 : Int32) h)
      refine q_icmp_ne C (tgt := 155) dX3_holds_139 (by decide) h (fun h => ?_) (fun h => ?_)
      · exact q_sub [] rfl (hj155 () h)
      · refine q_aload_n C dX3_holds_142 rfl 0 rfl ?_
        refine q_get C (Cn := RX3) (T := TX3) (Nf := 6) (ci := 3) (id := (61 + 5 * t)) (k := 3) (v := .ref (ad (61 + 5 * t + 4))) nX3_holds_X3 (by omega) (ceC_t0 ad cy _ _ _ t) rfl (by decide) rfl hX3_holds_21 dX3_holds_143 ?_
        refine q_iconst C (v := 0) dX3_holds_146 (by decide) ?_
        refine q_iald C (id := (61 + 5 * t + 4)) (by omega) (ceC_t4 ad cy _ _ _ t) dX3_holds_147 h (fun h => ?_)
        refine q_if_eq C (tgt := 155) dX3_holds_148 (by decide) h (fun h => ?_) (fun h => ?_)
        · exact q_sub [] rfl (hj155 () h)
        · refine q_iconst C (v := 1) dX3_holds_151 (by decide) ?_
          refine q_goto C (tgt := 156) dX3_holds_152 (by decide) ?_
          exact q_sub [] rfl (hj156 (1 : Int32) h)
    · refine q_aload_n C dX3_holds_31 rfl 0 rfl ?_
      refine q_get C (Cn := RX3) (T := TX3) (Nf := 6) (ci := 3) (id := (61 + 5 * t)) (k := 2) (v := .ref (ad (61 + 5 * t + 3))) nX3_holds_X3 (by omega) (ceC_t0 ad cy _ _ _ t) rfl (by decide) rfl hX3_holds_18 dX3_holds_32 ?_
      refine q_iload C dX3_holds_35 4 rfl ?_
      refine q_iald C (id := (61 + 5 * t + 3)) (by omega) (ceC_t3 ad cy _ _ _ t) dX3_holds_37 h (fun h => ?_)
      refine q_sipush C (v := 10000) dX3_holds_38 (by decide) ?_
      refine q_isub C dX3_holds_41 ?_
      refine q_istoreL C dX3_holds_42 (by decide) h (lw := fun x42 => [(0, .ref (ad (61 + 5 * t))), (1, .int a1), (2, .ref (ad 59)), (3, .int v3), (4, .int v4), (5, .int x42)]) (fun _ => rfl) (fun x42 h => ?_)
      refine q_iload C dX3_holds_44 5 rfl ?_
      refine q_join (G := fun (y131 : Int32 × St) => qVi ceC 96 ad cy X A D p l e (headSpec wsX3_holds rmX3_holds).room s m args below meth c 6 r0 σ0 131 [(0, .ref (ad (61 + 5 * t))), (1, .int a1), (2, .ref (ad 59)), (3, .int y131.1), (4, .int v4)] [] y131.2) h (fun y131 h => ?_) (fun j131 hj131 h => ?_)
      · refine q_iincL C dX3_holds_131 4 rfl (by decide) (nv := 1) (by decide) h (lw := fun x131 => [(0, .ref (ad (61 + 5 * t))), (1, .int a1), (2, .ref (ad 59)), (3, .int y131.1), (4, .int x131)]) (fun _ => rfl) (fun x131 h => ?_)
        refine q_goto C (tgt := 20) dX3_holds_134 (by decide) ?_
        exact q_sub [0, 1, 2, 3, 4] rfl (ih y131.1 x131 y131.2 h)
      refine q_join (G := fun (y97 : St) => qVi ceC 96 ad cy X A D p l e (headSpec wsX3_holds rmX3_holds).room s m args below meth c 6 r0 σ0 97 [(0, .ref (ad (61 + 5 * t))), (1, .int a1), (2, .ref (ad 59)), (3, .int v3), (4, .int v4), (5, .int x42)] [] y97) h (fun y97 h => ?_) (fun j97 hj97 h => ?_)
      · refine q_iload_n C dX3_holds_97 rfl 3 rfl ?_
        refine q_bipush C (v := 32) dX3_holds_98 (by decide) ?_
        refine q_icmp_ge C (tgt := 131) dX3_holds_100 (by decide) h (fun h => ?_) (fun h => ?_)
        · exact q_sub [0, 1, 2, 3, 4] rfl (hj131 (v3, y97) h)
        · refine q_aload_n C dX3_holds_103 rfl 0 rfl ?_
          refine q_get C (Cn := RX3) (T := TX3) (Nf := 6) (ci := 3) (id := (61 + 5 * t)) (k := 3) (v := .ref (ad (61 + 5 * t + 4))) nX3_holds_X3 (by omega) (ceC_t0 ad cy _ _ _ t) rfl (by decide) rfl hX3_holds_21 dX3_holds_104 ?_
          refine q_iload_n C dX3_holds_107 rfl 3 rfl ?_
          refine q_iload C dX3_holds_108 5 rfl ?_
          refine q_join (G := fun (y127 : Int32) => qVi ceC 96 ad cy X A D p l e (headSpec wsX3_holds rmX3_holds).room s m args below meth c 6 r0 σ0 127 [(0, .ref (ad (61 + 5 * t))), (1, .int a1), (2, .ref (ad 59)), (3, .int v3), (4, .int v4)] [.int y127, .int v3, .ref (ad (61 + 5 * t + 4))] y97) h (fun y127 h => ?_) (fun j127 hj127 h => ?_)
          · refine q_iast C (id := (61 + 5 * t + 4)) (by omega) (fun f g => ceC_t4 ad cy _ f g t) dX3_holds_127 h (fun σ127 h => ?_)
            refine q_iincL C dX3_holds_128 3 rfl (by decide) (nv := 1) (by decide) h (lw := fun x128 => [(0, .ref (ad (61 + 5 * t))), (1, .int a1), (2, .ref (ad 59)), (3, .int x128), (4, .int v4)]) (fun _ => rfl) (fun x128 h => ?_)
            exact q_sub [0, 1, 2, 3, 4] rfl (hj131 (x128, σ127) h)
          refine q_if_ge C (tgt := 123) dX3_holds_110 (by decide) h (fun h => ?_) (fun h => ?_)
          · refine q_aload_n C dX3_holds_123 rfl 2 rfl ?_
            refine q_iload C dX3_holds_124 5 rfl ?_
            refine q_iald C (id := 59) (by decide) (ceC_59 ad cy _ _ _) dX3_holds_126 h (fun h => ?_)
            exact q_sub [0, 1, 2, 3, 4] rfl (hj127 (y97.1 59 x42.toNatClampNeg) h)
          · refine q_aload_n C dX3_holds_113 rfl 0 rfl ?_
            refine q_get C (Cn := RX3) (T := TX3) (Nf := 6) (ci := 3) (id := (61 + 5 * t)) (k := 2) (v := .ref (ad (61 + 5 * t + 3))) nX3_holds_X3 (by omega) (ceC_t0 ad cy _ _ _ t) rfl (by decide) rfl hX3_holds_18 dX3_holds_114 ?_
            refine q_iload C dX3_holds_117 4 rfl ?_
            refine q_iald C (id := (61 + 5 * t + 3)) (by omega) (ceC_t3 ad cy _ _ _ t) dX3_holds_119 h (fun h => ?_)
            refine q_goto C (tgt := 127) dX3_holds_120 (by decide) ?_
            exact q_sub [0, 1, 2, 3, 4] rfl (hj127 (y97.1 (61 + 5 * t + 3) v4.toNatClampNeg) h)
      refine q_if_lt C (tgt := 97) dX3_holds_46 (by decide) h (fun h => ?_) (fun h => ?_)
      · exact q_sub [0, 1, 2, 3, 4, 5] rfl (hj97 σ h)
      · refine q_iload C dX3_holds_49 5 rfl ?_
        refine q_callSi C (rm := rmX3_isVar) (As := [.int x42]) (rest := []) (fun r9 σ9 h9 => kX3_isVar l D ad cy X A zs σ x42 r9 σ9 h9) gX3_holds_X3_isVar rfl rfl rfl hyX3_isVar ⟨Nat.le_of_ble_eq_true rfl, Nat.le_of_ble_eq_true rfl⟩ rfl rfl (Nat.le_of_ble_eq_true rfl) dX3_holds_51 ⟨Nat.zero_le _, Nat.zero_le _⟩ h (fun r51 σ51 h => ?_)
        refine q_if_ne C (tgt := 97) dX3_holds_54 (by decide) h (fun h => ?_) (fun h => ?_)
        · exact q_sub [0, 1, 2, 3, 4, 5] rfl (hj97 σ51 h)
        · refine q_iload_n C dX3_holds_57 rfl 3 rfl ?_
          refine q_iconst C (v := 2) dX3_holds_58 (by decide) ?_
          refine q_icmp_ge C (tgt := 64) dX3_holds_59 (by decide) h (fun h => ?_) (fun h => ?_)
          · refine q_iincL C dX3_holds_64 3 rfl (by decide) (nv := -1) (by decide) h (lw := fun x64 => [(0, .ref (ad (61 + 5 * t))), (1, .int a1), (2, .ref (ad 59)), (3, .int x64), (4, .int v4), (5, .int x42)]) (fun _ => rfl) (fun x64 h => ?_)
            refine q_aload_n C dX3_holds_67 rfl 0 rfl ?_
            refine q_get C (Cn := RX3) (T := TX3) (Nf := 6) (ci := 3) (id := (61 + 5 * t)) (k := 3) (v := .ref (ad (61 + 5 * t + 4))) nX3_holds_X3 (by omega) (ceC_t0 ad cy _ _ _ t) rfl (by decide) rfl hX3_holds_21 dX3_holds_68 ?_
            refine q_iload_n C dX3_holds_71 rfl 3 rfl ?_
            refine q_iconst C (v := 1) dX3_holds_72 (by decide) ?_
            refine q_isub C dX3_holds_73 ?_
            refine q_iload C dX3_holds_74 5 rfl ?_
            refine q_aload_n C dX3_holds_76 rfl 0 rfl ?_
            refine q_get C (Cn := RX3) (T := TX3) (Nf := 6) (ci := 3) (id := (61 + 5 * t)) (k := 3) (v := .ref (ad (61 + 5 * t + 4))) nX3_holds_X3 (by omega) (ceC_t0 ad cy _ _ _ t) rfl (by decide) rfl hX3_holds_21 dX3_holds_77 ?_
            refine q_iload_n C dX3_holds_80 rfl 3 rfl ?_
            refine q_iconst C (v := 1) dX3_holds_81 (by decide) ?_
            refine q_isub C dX3_holds_82 ?_
            refine q_iald C (id := (61 + 5 * t + 4)) (by omega) (ceC_t4 ad cy _ _ _ t) dX3_holds_83 h (fun h => ?_)
            refine q_aload_n C dX3_holds_84 rfl 0 rfl ?_
            refine q_get C (Cn := RX3) (T := TX3) (Nf := 6) (ci := 3) (id := (61 + 5 * t)) (k := 3) (v := .ref (ad (61 + 5 * t + 4))) nX3_holds_X3 (by omega) (ceC_t0 ad cy _ _ _ t) rfl (by decide) rfl hX3_holds_21 dX3_holds_85 ?_
            refine q_iload_n C dX3_holds_88 rfl 3 rfl ?_
            refine q_iald C (id := (61 + 5 * t + 4)) (by omega) (ceC_t4 ad cy _ _ _ t) dX3_holds_89 h (fun h => ?_)
            refine q_callSi C (rm := rmX3_apply) (As := [.int x42, .int (σ51.1 (61 + 5 * t + 4) (x64 - (1 : Int32)).toNatClampNeg), .int (σ51.1 (61 + 5 * t + 4) x64.toNatClampNeg)]) (rest := [.int (x64 - (1 : Int32)), .ref (ad (61 + 5 * t + 4))]) (fun r9 σ9 h9 => kX3_apply l D ad cy X A zs σ51 x42 (σ51.1 (61 + 5 * t + 4) (x64 - (1 : Int32)).toNatClampNeg) (σ51.1 (61 + 5 * t + 4) x64.toNatClampNeg) r9 σ9 h9) gX3_holds_X3_apply rfl rfl rfl hyX3_apply ⟨Nat.le_of_ble_eq_true rfl, Nat.le_of_ble_eq_true rfl⟩ rfl rfl (Nat.le_of_ble_eq_true rfl) dX3_holds_90 ⟨Nat.zero_le _, Nat.zero_le _⟩ h (fun r90 σ90 h => ?_)
            refine q_iast C (id := (61 + 5 * t + 4)) (by omega) (fun f g => ceC_t4 ad cy _ f g t) dX3_holds_93 h (fun σ93 h => ?_)
            refine q_goto C (tgt := 131) dX3_holds_94 (by decide) ?_
            exact q_sub [0, 1, 2, 3, 4] rfl (hj131 (x64, σ93) h)
          · refine q_iconst C (v := 0) dX3_holds_62 (by decide) ?_
            exact q_zret C rfl dX3_holds_63 h
set_option maxHeartbeats 4000000 in
set_option maxRecDepth 100000 in
theorem kX3_holds (l : Launch) (D : va_G) (ad : Nat → Nat) (cy : Nat → ClassId) (X : va_W) (A : Nat → Prop) (zs : Nat × Nat × Option Nat) (σ : St) (t : Nat) (a1 : Int32) (ht : t < 7) (r0 : Int32) (σ0 : St) (h : fX3_holds σ t a1 = some (r0, σ0)) : Met l yX3_holds wsX3_holds rmX3_holds (qPc ceC 96 ad cy X A D zs [.ref (ad (61 + 5 * t)), .int a1, .ref (ad 59)] σ) (qQi ceC 96 ad cy X A D r0 σ0) 0 0 A := by
  refine Met.ofW (cc := cX3_holds) (maxL := 6) (ret := (some .boolean)) (by decide) rfl ?_
  intro p e s m args below meth c s₁ B hml hv
  obtain ⟨ha, hP, hK, hE, hD⟩ := hv
  have C : qC ceC 96 ad cy X A D zs cX3_holds 6 RX3 wsX3_holds p s m args meth c (some .boolean) := ⟨B.exec, B.bytes, hml, findClass_of_methodNamed B.named, atoms_spec (ws := wsX3_holds) B.pre, hK, hD, B.returns, B.notSynchronized, hE⟩
  rw [show entryFrame m args 6 = entryFrame m ([.ref (ad (61 + 5 * t)), .int a1, .ref (ad 59)] : List Value).toArray 6 by rw [ha]]
  refine q_entry (A := A) (Nat.le_of_ble_eq_true rfl) hP (lv := [(0, .ref (ad (61 + 5 * t))), (1, .int a1), (2, .ref (ad 59))]) rfl ?_
  unfold fX3_holds at h
  refine q_iconst C (v := 0) dX3_holds_0 (by decide) ?_
  refine q_istore_n C dX3_holds_1 rfl (by decide) (lv' := [(0, .ref (ad (61 + 5 * t))), (1, .int a1), (2, .ref (ad 59)), (3, .int (0 : Int32))]) rfl ?_
  refine q_iload_n C dX3_holds_2 rfl 1 rfl ?_
  refine q_join (G := fun (y18 : Int32) => qVi ceC 96 ad cy X A D p l e (headSpec wsX3_holds rmX3_holds).room s m args below meth c 6 r0 σ0 18 [(0, .ref (ad (61 + 5 * t))), (1, .int a1), (2, .ref (ad 59)), (3, .int (0 : Int32))] [.int y18] σ) h (fun y18 h => ?_) (fun j18 hj18 h => ?_)
  · refine q_istore C dX3_holds_18 (by decide) (lv' := [(0, .ref (ad (61 + 5 * t))), (1, .int a1), (2, .ref (ad 59)), (3, .int (0 : Int32)), (4, .int y18)]) rfl ?_
    exact q_sub [0, 1, 2, 3, 4] rfl ((kX3_holds_L C r0 σ0 100000 ht) (0 : Int32) y18 σ h)
  refine q_if_ne C (tgt := 10) dX3_holds_3 (by decide) h (fun h => ?_) (fun h => ?_)
  · refine q_aload_n C dX3_holds_10 rfl 0 rfl ?_
    refine q_get C (Cn := RX3) (T := TX3) (Nf := 6) (ci := 3) (id := (61 + 5 * t)) (k := 1) (v := .ref (ad (61 + 5 * t + 2))) nX3_holds_X3 (by omega) (ceC_t0 ad cy _ _ _ t) rfl (by decide) rfl hX3_holds_15 dX3_holds_11 ?_
    refine q_iload_n C dX3_holds_14 rfl 1 rfl ?_
    refine q_iconst C (v := 1) dX3_holds_15 (by decide) ?_
    refine q_isub C dX3_holds_16 ?_
    refine q_iald C (id := (61 + 5 * t + 2)) (by omega) (ceC_t2 ad cy _ _ _ t) dX3_holds_17 h (fun h => ?_)
    exact q_sub [0, 1, 2, 3] rfl (hj18 (σ.1 (61 + 5 * t + 2) (a1 - (1 : Int32)).toNatClampNeg) h)
  · refine q_iconst C (v := 0) dX3_holds_6 (by decide) ?_
    refine q_goto C (tgt := 18) dX3_holds_7 (by decide) ?_
    exact q_sub [0, 1, 2, 3] rfl (hj18 (0 : Int32) h)
abbrev rmX3_firstThatHolds : Room := { frames := 2, cells := 0, slots := 0, locals := 47 }
theorem hyX3_firstThatHolds : yX3_firstThatHolds.cls = RX3 ∧ yX3_firstThatHolds.cls ≠ "java/lang/invoke/MethodHandle" ∧ yX3_firstThatHolds.cls ≠ "java/lang/invoke/VarHandle" ∧ (parseMethodDescriptor yX3_firstThatHolds.desc).map (fun d => d.parameters.length) = some 2 := by decide +kernel
theorem nX3_firstThatHolds_X3 : ∀ w ∈ u_ws RX3 TX3 6, w ∈ wsX3_firstThatHolds := by decide +kernel
theorem hX3_firstThatHolds_28 : Cond.fieldLink RX3 28 (TX3 5).1 (TX3 5).2.1 (TX3 5).2.2.1 ∈ wsX3_firstThatHolds := by decide +kernel
theorem hX3_firstThatHolds_9 : Cond.fieldLink RX3 9 (TX3 0).1 (TX3 0).2.1 (TX3 0).2.2.1 ∈ wsX3_firstThatHolds := by decide +kernel
def fX3_firstThatHolds_L (t : Nat) (a1 : Int32) : Nat → Int32 → St → Option (Int32 × St)
  | 0, _, _ => none
  | n + 1, v3, σ => if (σ.1 (61 + 5 * t) 5) ≤ v3 then (some ((-1 : Int32), σ)) else (qix v3 12 (qlet (fun (y31 : St) => (qlet (v3 + (1 : Int32)) (fun x31 => fX3_firstThatHolds_L t a1 n x31 y31))) (fun j31 => (if (σ.1 (61 + 5 * t + 1) v3.toNatClampNeg) = a1 then (qcall (fX3_holds σ t v3) (fun r23 σ23 => if r23 = (0 : Int32) then (j31 σ23) else (some (v3, σ23)))) else (j31 σ)))))
def fX3_firstThatHolds (σ : St) (t : Nat) (a1 : Int32) : Option (Int32 × St) := fX3_firstThatHolds_L t a1 100000 (0 : Int32) σ
set_option maxHeartbeats 4000000 in
set_option maxRecDepth 100000 in
theorem kX3_firstThatHolds_L {ad : Nat → Nat} {cy : Nat → ClassId} {X : va_W} {A : Nat → Prop} {D : va_G} {zs : Nat × Nat × Option Nat} {p : Program} {l : Launch} {e : Env} {s : State} {m : MethodId} {args : Array Value} {below : List Frame} {meth : Method} {c : Code} {t : Nat} {a1 : Int32} (C : qC ceC 96 ad cy X A D zs cX3_firstThatHolds 4 RX3 wsX3_firstThatHolds p s m args meth c (some .int)) (r0 : Int32) (σ0 : St) (n : Nat) (ht : t < 7) : (∀ (v3 : Int32) (σ : St), fX3_firstThatHolds_L t a1 n v3 σ = some (r0, σ0) → qVi ceC 96 ad cy X A D p l e (headSpec wsX3_firstThatHolds rmX3_firstThatHolds).room s m args below meth c 4 r0 σ0 2 [(0, .ref (ad (61 + 5 * t))), (1, .int a1), (2, .ref (ad 59)), (3, .int v3)] [] σ) := by
  induction n with
  | zero =>
    intro v3 σ h; cases h
  | succ n ih =>
    intro v3 σ h
    rw [fX3_firstThatHolds_L] at h
    refine q_iload_n C dX3_firstThatHolds_2 rfl 3 rfl ?_
    refine q_aload_n C dX3_firstThatHolds_3 rfl 0 rfl ?_
    refine q_get C (Cn := RX3) (T := TX3) (Nf := 6) (ci := 3) (id := (61 + 5 * t)) (k := 5) (v := .int (σ.1 (61 + 5 * t) 5)) nX3_firstThatHolds_X3 (by omega) (ceC_t0 ad cy _ _ _ t) rfl (by decide) rfl hX3_firstThatHolds_28 dX3_firstThatHolds_4 ?_
    refine q_icmp_ge C (tgt := 37) dX3_firstThatHolds_7 (by decide) h (fun h => ?_) (fun h => ?_)
    · refine q_iconst C (v := -1) dX3_firstThatHolds_37 (by decide) ?_
      exact q_iret C rfl dX3_firstThatHolds_38 h
    · refine q_aload_n C dX3_firstThatHolds_10 rfl 0 rfl ?_
      refine q_get C (Cn := RX3) (T := TX3) (Nf := 6) (ci := 3) (id := (61 + 5 * t)) (k := 0) (v := .ref (ad (61 + 5 * t + 1))) nX3_firstThatHolds_X3 (by omega) (ceC_t0 ad cy _ _ _ t) rfl (by decide) rfl hX3_firstThatHolds_9 dX3_firstThatHolds_11 ?_
      refine q_iload_n C dX3_firstThatHolds_14 rfl 3 rfl ?_
      refine q_iald C (id := (61 + 5 * t + 1)) (by omega) (ceC_t1 ad cy _ _ _ t) dX3_firstThatHolds_15 h (fun h => ?_)
      refine q_iload_n C dX3_firstThatHolds_16 rfl 1 rfl ?_
      refine q_join (G := fun (y31 : St) => qVi ceC 96 ad cy X A D p l e (headSpec wsX3_firstThatHolds rmX3_firstThatHolds).room s m args below meth c 4 r0 σ0 31 [(0, .ref (ad (61 + 5 * t))), (1, .int a1), (2, .ref (ad 59)), (3, .int v3)] [] y31) h (fun y31 h => ?_) (fun j31 hj31 h => ?_)
      · refine q_iincL C dX3_firstThatHolds_31 3 rfl (by decide) (nv := 1) (by decide) h (lw := fun x31 => [(0, .ref (ad (61 + 5 * t))), (1, .int a1), (2, .ref (ad 59)), (3, .int x31)]) (fun _ => rfl) (fun x31 h => ?_)
        refine q_goto C (tgt := 2) dX3_firstThatHolds_34 (by decide) ?_
        exact q_sub [0, 1, 2, 3] rfl (ih x31 y31 h)
      refine q_icmp_ne C (tgt := 31) dX3_firstThatHolds_17 (by decide) h (fun h => ?_) (fun h => ?_)
      · exact q_sub [0, 1, 2, 3] rfl (hj31 σ h)
      · refine q_aload_n C dX3_firstThatHolds_20 rfl 0 rfl ?_
        refine q_iload_n C dX3_firstThatHolds_21 rfl 3 rfl ?_
        refine q_aload_n C dX3_firstThatHolds_22 rfl 2 rfl ?_
        refine q_callVi C (rm := rmX3_holds) (As := [.int v3, .ref (ad 59)]) (rest := []) (id := (61 + 5 * t)) (ci := 3) (fun r9 σ9 h9 => kX3_holds l D ad cy X A zs σ t v3 ht r9 σ9 h9) gX3_firstThatHolds_X3_holds rfl rfl rfl hyX3_holds ⟨Nat.le_of_ble_eq_true rfl, Nat.le_of_ble_eq_true rfl⟩ (by omega) (ceC_t0 ad cy _ _ _ t) rfl rfl rfl (Nat.le_of_ble_eq_true rfl) dX3_firstThatHolds_23 ⟨Nat.zero_le _, Nat.zero_le _⟩ h (fun r23 σ23 h => ?_)
        refine q_if_eq C (tgt := 31) dX3_firstThatHolds_26 (by decide) h (fun h => ?_) (fun h => ?_)
        · exact q_sub [0, 1, 2, 3] rfl (hj31 σ23 h)
        · refine q_iload_n C dX3_firstThatHolds_29 rfl 3 rfl ?_
          exact q_iret C rfl dX3_firstThatHolds_30 h
set_option maxHeartbeats 4000000 in
set_option maxRecDepth 100000 in
theorem kX3_firstThatHolds (l : Launch) (D : va_G) (ad : Nat → Nat) (cy : Nat → ClassId) (X : va_W) (A : Nat → Prop) (zs : Nat × Nat × Option Nat) (σ : St) (t : Nat) (a1 : Int32) (ht : t < 7) (r0 : Int32) (σ0 : St) (h : fX3_firstThatHolds σ t a1 = some (r0, σ0)) : Met l yX3_firstThatHolds wsX3_firstThatHolds rmX3_firstThatHolds (qPc ceC 96 ad cy X A D zs [.ref (ad (61 + 5 * t)), .int a1, .ref (ad 59)] σ) (qQi ceC 96 ad cy X A D r0 σ0) 0 0 A := by
  refine Met.ofW (cc := cX3_firstThatHolds) (maxL := 4) (ret := (some .int)) (by decide) rfl ?_
  intro p e s m args below meth c s₁ B hml hv
  obtain ⟨ha, hP, hK, hE, hD⟩ := hv
  have C : qC ceC 96 ad cy X A D zs cX3_firstThatHolds 4 RX3 wsX3_firstThatHolds p s m args meth c (some .int) := ⟨B.exec, B.bytes, hml, findClass_of_methodNamed B.named, atoms_spec (ws := wsX3_firstThatHolds) B.pre, hK, hD, B.returns, B.notSynchronized, hE⟩
  rw [show entryFrame m args 4 = entryFrame m ([.ref (ad (61 + 5 * t)), .int a1, .ref (ad 59)] : List Value).toArray 4 by rw [ha]]
  refine q_entry (A := A) (Nat.le_of_ble_eq_true rfl) hP (lv := [(0, .ref (ad (61 + 5 * t))), (1, .int a1), (2, .ref (ad 59))]) rfl ?_
  unfold fX3_firstThatHolds at h
  refine q_iconst C (v := 0) dX3_firstThatHolds_0 (by decide) ?_
  refine q_istore_n C dX3_firstThatHolds_1 rfl (by decide) (lv' := [(0, .ref (ad (61 + 5 * t))), (1, .int a1), (2, .ref (ad 59)), (3, .int (0 : Int32))]) rfl ?_
  exact q_sub [0, 1, 2, 3] rfl ((kX3_firstThatHolds_L C r0 σ0 100000 ht) (0 : Int32) σ h)
abbrev rmX3_clearRules : Room := { frames := 0, cells := 0, slots := 0, locals := 0 }
theorem hyX3_clearRules : yX3_clearRules.cls = RX3 ∧ yX3_clearRules.cls ≠ "java/lang/invoke/MethodHandle" ∧ yX3_clearRules.cls ≠ "java/lang/invoke/VarHandle" ∧ (parseMethodDescriptor yX3_clearRules.desc).map (fun d => d.parameters.length) = some 0 := by decide +kernel
theorem nX3_clearRules_X3 : ∀ w ∈ u_ws RX3 TX3 6, w ∈ wsX3_clearRules := fun w h => List.mem_cons_of_mem _ (List.mem_append_right _ h)
theorem hX3_clearRules_28 : Cond.fieldLink RX3 28 (TX3 5).1 (TX3 5).2.1 (TX3 5).2.2.1 ∈ wsX3_clearRules := by decide +kernel
theorem hX3_clearRules_24 : Cond.fieldLink RX3 24 (TX3 4).1 (TX3 4).2.1 (TX3 4).2.2.1 ∈ wsX3_clearRules := by decide +kernel
def fX3_clearRules (σ : St) (t : Nat) : Option (Int32 × St) := qlet (sI σ (61 + 5 * t) 5 (0 : Int32)) (fun σ2 => qlet (sI σ2 (61 + 5 * t) 4 (0 : Int32)) (fun σ7 => some ((0 : Int32), σ7)))
set_option maxHeartbeats 4000000 in
set_option maxRecDepth 100000 in
theorem kX3_clearRules (l : Launch) (D : va_G) (ad : Nat → Nat) (cy : Nat → ClassId) (X : va_W) (A : Nat → Prop) (zs : Nat × Nat × Option Nat) (σ : St) (t : Nat) (ht : t < 7) (r0 : Int32) (σ0 : St) (h : fX3_clearRules σ t = some (r0, σ0)) : Met l yX3_clearRules wsX3_clearRules rmX3_clearRules (qPc ceC 96 ad cy X A D zs [.ref (ad (61 + 5 * t))] σ) (qQv ceC 96 ad cy X A D σ0) 0 0 A := by
  refine Met.ofW (cc := cX3_clearRules) (maxL := 1) (ret := none) (by decide) rfl ?_
  intro p e s m args below meth c s₁ B hml hv
  obtain ⟨ha, hP, hK, hE, hD⟩ := hv
  have C : qC ceC 96 ad cy X A D zs cX3_clearRules 1 RX3 wsX3_clearRules p s m args meth c none := ⟨B.exec, B.bytes, hml, findClass_of_methodNamed B.named, atoms_spec (ws := wsX3_clearRules) B.pre, hK, hD, B.returns, B.notSynchronized, hE⟩
  rw [show entryFrame m args 1 = entryFrame m ([.ref (ad (61 + 5 * t))] : List Value).toArray 1 by rw [ha]]
  refine q_entry (A := A) (Nat.le_of_ble_eq_true rfl) hP (lv := [(0, .ref (ad (61 + 5 * t)))]) rfl ?_
  unfold fX3_clearRules at h
  refine q_aload_n C dX3_clearRules_0 rfl 0 rfl ?_
  refine q_iconst C (v := 0) dX3_clearRules_1 (by decide) ?_
  refine q_put C (Cn := RX3) (T := TX3) (ty0 := tyX3) (Nf := 6) (ci := 3) (id := (61 + 5 * t)) (k := 5) (y := 0) tyX3_ok nmX3 nX3_clearRules_X3 (by omega) (ceC_t0 ad cy _ _ _ t) (ceC_t0 ad cy _ _ _ t) rfl (by decide) rfl (by decide +kernel) (Nat.le_of_ble_eq_true rfl) hX3_clearRules_28 dX3_clearRules_2 h (fun σ2 h => ?_)
  refine q_aload_n C dX3_clearRules_5 rfl 0 rfl ?_
  refine q_iconst C (v := 0) dX3_clearRules_6 (by decide) ?_
  refine q_put C (Cn := RX3) (T := TX3) (ty0 := tyX3) (Nf := 6) (ci := 3) (id := (61 + 5 * t)) (k := 4) (y := 0) tyX3_ok nmX3 nX3_clearRules_X3 (by omega) (ceC_t0 ad cy _ _ _ t) (ceC_t0 ad cy _ _ _ t) rfl (by decide) rfl (by decide +kernel) (Nat.le_of_ble_eq_true rfl) hX3_clearRules_24 dX3_clearRules_7 h (fun σ7 h => ?_)
  exact q_vret C (r0 := r0) rfl dX3_clearRules_10 h
abbrev rmX3_openRule : Room := { frames := 0, cells := 0, slots := 0, locals := 0 }
theorem hyX3_openRule : yX3_openRule.cls = RX3 ∧ yX3_openRule.cls ≠ "java/lang/invoke/MethodHandle" ∧ yX3_openRule.cls ≠ "java/lang/invoke/VarHandle" ∧ (parseMethodDescriptor yX3_openRule.desc).map (fun d => d.parameters.length) = some 1 := by decide +kernel
theorem nX3_openRule_X3 : ∀ w ∈ u_ws RX3 TX3 6, w ∈ wsX3_openRule := by decide +kernel
theorem hX3_openRule_28 : Cond.fieldLink RX3 28 (TX3 5).1 (TX3 5).2.1 (TX3 5).2.2.1 ∈ wsX3_openRule := by decide +kernel
theorem hX3_openRule_9 : Cond.fieldLink RX3 9 (TX3 0).1 (TX3 0).2.1 (TX3 0).2.2.1 ∈ wsX3_openRule := by decide +kernel
def fX3_openRule (σ : St) (t : Nat) (a1 : Int32) : Option (Int32 × St) := qlet (fun (y19 : St) => (some ((0 : Int32), y19))) (fun j19 => (if (12 : Int32) ≤ (σ.1 (61 + 5 * t) 5) then (j19 σ) else (qix (σ.1 (61 + 5 * t) 5) 12 (qlet (sI σ (61 + 5 * t + 1) (σ.1 (61 + 5 * t) 5).toNatClampNeg a1) (fun σ18 => j19 σ18)))))
set_option maxHeartbeats 4000000 in
set_option maxRecDepth 100000 in
theorem kX3_openRule (l : Launch) (D : va_G) (ad : Nat → Nat) (cy : Nat → ClassId) (X : va_W) (A : Nat → Prop) (zs : Nat × Nat × Option Nat) (σ : St) (t : Nat) (a1 : Int32) (ht : t < 7) (r0 : Int32) (σ0 : St) (h : fX3_openRule σ t a1 = some (r0, σ0)) : Met l yX3_openRule wsX3_openRule rmX3_openRule (qPc ceC 96 ad cy X A D zs [.ref (ad (61 + 5 * t)), .int a1] σ) (qQv ceC 96 ad cy X A D σ0) 0 0 A := by
  refine Met.ofW (cc := cX3_openRule) (maxL := 2) (ret := none) (by decide) rfl ?_
  intro p e s m args below meth c s₁ B hml hv
  obtain ⟨ha, hP, hK, hE, hD⟩ := hv
  have C : qC ceC 96 ad cy X A D zs cX3_openRule 2 RX3 wsX3_openRule p s m args meth c none := ⟨B.exec, B.bytes, hml, findClass_of_methodNamed B.named, atoms_spec (ws := wsX3_openRule) B.pre, hK, hD, B.returns, B.notSynchronized, hE⟩
  rw [show entryFrame m args 2 = entryFrame m ([.ref (ad (61 + 5 * t)), .int a1] : List Value).toArray 2 by rw [ha]]
  refine q_entry (A := A) (Nat.le_of_ble_eq_true rfl) hP (lv := [(0, .ref (ad (61 + 5 * t))), (1, .int a1)]) rfl ?_
  unfold fX3_openRule at h
  refine q_aload_n C dX3_openRule_0 rfl 0 rfl ?_
  refine q_get C (Cn := RX3) (T := TX3) (Nf := 6) (ci := 3) (id := (61 + 5 * t)) (k := 5) (v := .int (σ.1 (61 + 5 * t) 5)) nX3_openRule_X3 (by omega) (ceC_t0 ad cy _ _ _ t) rfl (by decide) rfl hX3_openRule_28 dX3_openRule_1 ?_
  refine q_bipush C (v := 12) dX3_openRule_4 (by decide) ?_
  refine q_join (G := fun (y19 : St) => qVv ceC 96 ad cy X A D p l e (headSpec wsX3_openRule rmX3_openRule).room s m args below meth c 2 r0 σ0 19 [] [] y19) h (fun y19 h => ?_) (fun j19 hj19 h => ?_)
  · exact q_vret C (r0 := r0) rfl dX3_openRule_19 h
  refine q_icmp_ge C (tgt := 19) dX3_openRule_6 (by decide) h (fun h => ?_) (fun h => ?_)
  · exact q_sub [] rfl (hj19 σ h)
  · refine q_aload_n C dX3_openRule_9 rfl 0 rfl ?_
    refine q_get C (Cn := RX3) (T := TX3) (Nf := 6) (ci := 3) (id := (61 + 5 * t)) (k := 0) (v := .ref (ad (61 + 5 * t + 1))) nX3_openRule_X3 (by omega) (ceC_t0 ad cy _ _ _ t) rfl (by decide) rfl hX3_openRule_9 dX3_openRule_10 ?_
    refine q_aload_n C dX3_openRule_13 rfl 0 rfl ?_
    refine q_get C (Cn := RX3) (T := TX3) (Nf := 6) (ci := 3) (id := (61 + 5 * t)) (k := 5) (v := .int (σ.1 (61 + 5 * t) 5)) nX3_openRule_X3 (by omega) (ceC_t0 ad cy _ _ _ t) rfl (by decide) rfl hX3_openRule_28 dX3_openRule_14 ?_
    refine q_iload_n C dX3_openRule_17 rfl 1 rfl ?_
    refine q_iast C (id := (61 + 5 * t + 1)) (by omega) (fun f g => ceC_t1 ad cy _ f g t) dX3_openRule_18 h (fun σ18 h => ?_)
    exact q_sub [] rfl (hj19 σ18 h)
abbrev rmX3_addCode : Room := { frames := 0, cells := 0, slots := 0, locals := 0 }
theorem hyX3_addCode : yX3_addCode.cls = RX3 ∧ yX3_addCode.cls ≠ "java/lang/invoke/MethodHandle" ∧ yX3_addCode.cls ≠ "java/lang/invoke/VarHandle" ∧ (parseMethodDescriptor yX3_addCode.desc).map (fun d => d.parameters.length) = some 1 := by decide +kernel
theorem nX3_addCode_X3 : ∀ w ∈ u_ws RX3 TX3 6, w ∈ wsX3_addCode := by decide +kernel
theorem hX3_addCode_24 : Cond.fieldLink RX3 24 (TX3 4).1 (TX3 4).2.1 (TX3 4).2.2.1 ∈ wsX3_addCode := by decide +kernel
theorem hX3_addCode_18 : Cond.fieldLink RX3 18 (TX3 2).1 (TX3 2).2.1 (TX3 2).2.2.1 ∈ wsX3_addCode := by decide +kernel
def fX3_addCode (σ : St) (t : Nat) (a1 : Int32) : Option (Int32 × St) := qlet (fun (y30 : St) => (some ((0 : Int32), y30))) (fun j30 => (if (400 : Int32) ≤ (σ.1 (61 + 5 * t) 4) then (j30 σ) else (qix (σ.1 (61 + 5 * t) 4) 400 (qlet (sI σ (61 + 5 * t + 3) (σ.1 (61 + 5 * t) 4).toNatClampNeg a1) (fun σ19 => qlet (sI σ19 (61 + 5 * t) 4 ((σ19.1 (61 + 5 * t) 4) + (1 : Int32))) (fun σ27 => j30 σ27))))))
set_option maxHeartbeats 4000000 in
set_option maxRecDepth 100000 in
theorem kX3_addCode (l : Launch) (D : va_G) (ad : Nat → Nat) (cy : Nat → ClassId) (X : va_W) (A : Nat → Prop) (zs : Nat × Nat × Option Nat) (σ : St) (t : Nat) (a1 : Int32) (ht : t < 7) (r0 : Int32) (σ0 : St) (h : fX3_addCode σ t a1 = some (r0, σ0)) : Met l yX3_addCode wsX3_addCode rmX3_addCode (qPc ceC 96 ad cy X A D zs [.ref (ad (61 + 5 * t)), .int a1] σ) (qQv ceC 96 ad cy X A D σ0) 0 0 A := by
  refine Met.ofW (cc := cX3_addCode) (maxL := 2) (ret := none) (by decide) rfl ?_
  intro p e s m args below meth c s₁ B hml hv
  obtain ⟨ha, hP, hK, hE, hD⟩ := hv
  have C : qC ceC 96 ad cy X A D zs cX3_addCode 2 RX3 wsX3_addCode p s m args meth c none := ⟨B.exec, B.bytes, hml, findClass_of_methodNamed B.named, atoms_spec (ws := wsX3_addCode) B.pre, hK, hD, B.returns, B.notSynchronized, hE⟩
  rw [show entryFrame m args 2 = entryFrame m ([.ref (ad (61 + 5 * t)), .int a1] : List Value).toArray 2 by rw [ha]]
  refine q_entry (A := A) (Nat.le_of_ble_eq_true rfl) hP (lv := [(0, .ref (ad (61 + 5 * t))), (1, .int a1)]) rfl ?_
  unfold fX3_addCode at h
  refine q_aload_n C dX3_addCode_0 rfl 0 rfl ?_
  refine q_get C (Cn := RX3) (T := TX3) (Nf := 6) (ci := 3) (id := (61 + 5 * t)) (k := 4) (v := .int (σ.1 (61 + 5 * t) 4)) nX3_addCode_X3 (by omega) (ceC_t0 ad cy _ _ _ t) rfl (by decide) rfl hX3_addCode_24 dX3_addCode_1 ?_
  refine q_sipush C (v := 400) dX3_addCode_4 (by decide) ?_
  refine q_join (G := fun (y30 : St) => qVv ceC 96 ad cy X A D p l e (headSpec wsX3_addCode rmX3_addCode).room s m args below meth c 2 r0 σ0 30 [] [] y30) h (fun y30 h => ?_) (fun j30 hj30 h => ?_)
  · exact q_vret C (r0 := r0) rfl dX3_addCode_30 h
  refine q_icmp_ge C (tgt := 30) dX3_addCode_7 (by decide) h (fun h => ?_) (fun h => ?_)
  · exact q_sub [] rfl (hj30 σ h)
  · refine q_aload_n C dX3_addCode_10 rfl 0 rfl ?_
    refine q_get C (Cn := RX3) (T := TX3) (Nf := 6) (ci := 3) (id := (61 + 5 * t)) (k := 2) (v := .ref (ad (61 + 5 * t + 3))) nX3_addCode_X3 (by omega) (ceC_t0 ad cy _ _ _ t) rfl (by decide) rfl hX3_addCode_18 dX3_addCode_11 ?_
    refine q_aload_n C dX3_addCode_14 rfl 0 rfl ?_
    refine q_get C (Cn := RX3) (T := TX3) (Nf := 6) (ci := 3) (id := (61 + 5 * t)) (k := 4) (v := .int (σ.1 (61 + 5 * t) 4)) nX3_addCode_X3 (by omega) (ceC_t0 ad cy _ _ _ t) rfl (by decide) rfl hX3_addCode_24 dX3_addCode_15 ?_
    refine q_iload_n C dX3_addCode_18 rfl 1 rfl ?_
    refine q_iast C (id := (61 + 5 * t + 3)) (by omega) (fun f g => ceC_t3 ad cy _ f g t) dX3_addCode_19 h (fun σ19 h => ?_)
    refine q_aload_n C dX3_addCode_20 rfl 0 rfl ?_
    refine q_dup C dX3_addCode_21 rfl ?_
    refine q_get C (Cn := RX3) (T := TX3) (Nf := 6) (ci := 3) (id := (61 + 5 * t)) (k := 4) (v := .int (σ19.1 (61 + 5 * t) 4)) nX3_addCode_X3 (by omega) (ceC_t0 ad cy _ _ _ t) rfl (by decide) rfl hX3_addCode_24 dX3_addCode_22 ?_
    refine q_iconst C (v := 1) dX3_addCode_25 (by decide) ?_
    refine q_iadd C dX3_addCode_26 ?_
    refine q_put C (Cn := RX3) (T := TX3) (ty0 := tyX3) (Nf := 6) (ci := 3) (id := (61 + 5 * t)) (k := 4) (y := 0) tyX3_ok nmX3 nX3_addCode_X3 (by omega) (ceC_t0 ad cy _ _ _ t) (ceC_t0 ad cy _ _ _ t) rfl (by decide) rfl (by decide +kernel) (Nat.le_of_ble_eq_true rfl) hX3_addCode_24 dX3_addCode_27 h (fun σ27 h => ?_)
    exact q_sub [] rfl (hj30 σ27 h)
abbrev rmX3_closeRule : Room := { frames := 0, cells := 0, slots := 0, locals := 0 }
theorem hyX3_closeRule : yX3_closeRule.cls = RX3 ∧ yX3_closeRule.cls ≠ "java/lang/invoke/MethodHandle" ∧ yX3_closeRule.cls ≠ "java/lang/invoke/VarHandle" ∧ (parseMethodDescriptor yX3_closeRule.desc).map (fun d => d.parameters.length) = some 0 := by decide +kernel
theorem nX3_closeRule_X3 : ∀ w ∈ u_ws RX3 TX3 6, w ∈ wsX3_closeRule := by decide +kernel
theorem hX3_closeRule_28 : Cond.fieldLink RX3 28 (TX3 5).1 (TX3 5).2.1 (TX3 5).2.2.1 ∈ wsX3_closeRule := by decide +kernel
theorem hX3_closeRule_15 : Cond.fieldLink RX3 15 (TX3 1).1 (TX3 1).2.1 (TX3 1).2.2.1 ∈ wsX3_closeRule := by decide +kernel
theorem hX3_closeRule_24 : Cond.fieldLink RX3 24 (TX3 4).1 (TX3 4).2.1 (TX3 4).2.2.1 ∈ wsX3_closeRule := by decide +kernel
def fX3_closeRule (σ : St) (t : Nat) : Option (Int32 × St) := qlet (fun (y32 : St) => (some ((0 : Int32), y32))) (fun j32 => (if (12 : Int32) ≤ (σ.1 (61 + 5 * t) 5) then (j32 σ) else (qix (σ.1 (61 + 5 * t) 5) 12 (qlet (sI σ (61 + 5 * t + 2) (σ.1 (61 + 5 * t) 5).toNatClampNeg (σ.1 (61 + 5 * t) 4)) (fun σ21 => qlet (sI σ21 (61 + 5 * t) 5 ((σ21.1 (61 + 5 * t) 5) + (1 : Int32))) (fun σ29 => j32 σ29))))))
set_option maxHeartbeats 4000000 in
set_option maxRecDepth 100000 in
theorem kX3_closeRule (l : Launch) (D : va_G) (ad : Nat → Nat) (cy : Nat → ClassId) (X : va_W) (A : Nat → Prop) (zs : Nat × Nat × Option Nat) (σ : St) (t : Nat) (ht : t < 7) (r0 : Int32) (σ0 : St) (h : fX3_closeRule σ t = some (r0, σ0)) : Met l yX3_closeRule wsX3_closeRule rmX3_closeRule (qPc ceC 96 ad cy X A D zs [.ref (ad (61 + 5 * t))] σ) (qQv ceC 96 ad cy X A D σ0) 0 0 A := by
  refine Met.ofW (cc := cX3_closeRule) (maxL := 1) (ret := none) (by decide) rfl ?_
  intro p e s m args below meth c s₁ B hml hv
  obtain ⟨ha, hP, hK, hE, hD⟩ := hv
  have C : qC ceC 96 ad cy X A D zs cX3_closeRule 1 RX3 wsX3_closeRule p s m args meth c none := ⟨B.exec, B.bytes, hml, findClass_of_methodNamed B.named, atoms_spec (ws := wsX3_closeRule) B.pre, hK, hD, B.returns, B.notSynchronized, hE⟩
  rw [show entryFrame m args 1 = entryFrame m ([.ref (ad (61 + 5 * t))] : List Value).toArray 1 by rw [ha]]
  refine q_entry (A := A) (Nat.le_of_ble_eq_true rfl) hP (lv := [(0, .ref (ad (61 + 5 * t)))]) rfl ?_
  unfold fX3_closeRule at h
  refine q_aload_n C dX3_closeRule_0 rfl 0 rfl ?_
  refine q_get C (Cn := RX3) (T := TX3) (Nf := 6) (ci := 3) (id := (61 + 5 * t)) (k := 5) (v := .int (σ.1 (61 + 5 * t) 5)) nX3_closeRule_X3 (by omega) (ceC_t0 ad cy _ _ _ t) rfl (by decide) rfl hX3_closeRule_28 dX3_closeRule_1 ?_
  refine q_bipush C (v := 12) dX3_closeRule_4 (by decide) ?_
  refine q_join (G := fun (y32 : St) => qVv ceC 96 ad cy X A D p l e (headSpec wsX3_closeRule rmX3_closeRule).room s m args below meth c 1 r0 σ0 32 [] [] y32) h (fun y32 h => ?_) (fun j32 hj32 h => ?_)
  · exact q_vret C (r0 := r0) rfl dX3_closeRule_32 h
  refine q_icmp_ge C (tgt := 32) dX3_closeRule_6 (by decide) h (fun h => ?_) (fun h => ?_)
  · exact q_sub [] rfl (hj32 σ h)
  · refine q_aload_n C dX3_closeRule_9 rfl 0 rfl ?_
    refine q_get C (Cn := RX3) (T := TX3) (Nf := 6) (ci := 3) (id := (61 + 5 * t)) (k := 1) (v := .ref (ad (61 + 5 * t + 2))) nX3_closeRule_X3 (by omega) (ceC_t0 ad cy _ _ _ t) rfl (by decide) rfl hX3_closeRule_15 dX3_closeRule_10 ?_
    refine q_aload_n C dX3_closeRule_13 rfl 0 rfl ?_
    refine q_get C (Cn := RX3) (T := TX3) (Nf := 6) (ci := 3) (id := (61 + 5 * t)) (k := 5) (v := .int (σ.1 (61 + 5 * t) 5)) nX3_closeRule_X3 (by omega) (ceC_t0 ad cy _ _ _ t) rfl (by decide) rfl hX3_closeRule_28 dX3_closeRule_14 ?_
    refine q_aload_n C dX3_closeRule_17 rfl 0 rfl ?_
    refine q_get C (Cn := RX3) (T := TX3) (Nf := 6) (ci := 3) (id := (61 + 5 * t)) (k := 4) (v := .int (σ.1 (61 + 5 * t) 4)) nX3_closeRule_X3 (by omega) (ceC_t0 ad cy _ _ _ t) rfl (by decide) rfl hX3_closeRule_24 dX3_closeRule_18 ?_
    refine q_iast C (id := (61 + 5 * t + 2)) (by omega) (fun f g => ceC_t2 ad cy _ f g t) dX3_closeRule_21 h (fun σ21 h => ?_)
    refine q_aload_n C dX3_closeRule_22 rfl 0 rfl ?_
    refine q_dup C dX3_closeRule_23 rfl ?_
    refine q_get C (Cn := RX3) (T := TX3) (Nf := 6) (ci := 3) (id := (61 + 5 * t)) (k := 5) (v := .int (σ21.1 (61 + 5 * t) 5)) nX3_closeRule_X3 (by omega) (ceC_t0 ad cy _ _ _ t) rfl (by decide) rfl hX3_closeRule_28 dX3_closeRule_24 ?_
    refine q_iconst C (v := 1) dX3_closeRule_27 (by decide) ?_
    refine q_iadd C dX3_closeRule_28 ?_
    refine q_put C (Cn := RX3) (T := TX3) (ty0 := tyX3) (Nf := 6) (ci := 3) (id := (61 + 5 * t)) (k := 5) (y := 0) tyX3_ok nmX3 nX3_closeRule_X3 (by omega) (ceC_t0 ad cy _ _ _ t) (ceC_t0 ad cy _ _ _ t) rfl (by decide) rfl (by decide +kernel) (Nat.le_of_ble_eq_true rfl) hX3_closeRule_28 dX3_closeRule_29 h (fun σ29 h => ?_)
    exact q_sub [] rfl (hj32 σ29 h)
abbrev rmX4_isLand : Room := { frames := 0, cells := 0, slots := 0, locals := 0 }
theorem hyX4_isLand : yX4_isLand.cls = RX4 ∧ yX4_isLand.cls ≠ "java/lang/invoke/MethodHandle" ∧ yX4_isLand.cls ≠ "java/lang/invoke/VarHandle" ∧ (parseMethodDescriptor yX4_isLand.desc).map (fun d => d.parameters.length) = some 1 := by decide +kernel
theorem nX4_isLand_X4 : ∀ w ∈ u_ws RX4 TX4 8, w ∈ wsX4_isLand := fun w h => List.mem_cons_of_mem _ (List.mem_append_right _ h)
theorem hX4_isLand_38 : Cond.fieldLink RX4 38 (TX4 7).1 (TX4 7).2.1 (TX4 7).2.2.1 ∈ wsX4_isLand := by decide +kernel
def fX4_isLand (σ : St) (a1 : Int32) : Option (Int32 × St) := qlet (fun (y17 : Int32) => (qzz y17 (some (y17, σ)))) (fun j17 => (qlet (fun (y16 : Unit) => (j17 (0 : Int32))) (fun j16 => (if a1 < (0 : Int32) then (j16 ()) else (if (σ.1 2 7) ≤ a1 then (j16 ()) else (j17 (1 : Int32)))))))
set_option maxHeartbeats 4000000 in
set_option maxRecDepth 100000 in
theorem kX4_isLand (l : Launch) (D : va_G) (ad : Nat → Nat) (cy : Nat → ClassId) (X : va_W) (A : Nat → Prop) (zs : Nat × Nat × Option Nat) (σ : St) (a1 : Int32) (r0 : Int32) (σ0 : St) (h : fX4_isLand σ a1 = some (r0, σ0)) : Met l yX4_isLand wsX4_isLand rmX4_isLand (qPc ceC 96 ad cy X A D zs [.ref (ad 2), .int a1] σ) (qQi ceC 96 ad cy X A D r0 σ0) 0 0 A := by
  refine Met.ofW (cc := cX4_isLand) (maxL := 2) (ret := (some .boolean)) (by decide) rfl ?_
  intro p e s m args below meth c s₁ B hml hv
  obtain ⟨ha, hP, hK, hE, hD⟩ := hv
  have C : qC ceC 96 ad cy X A D zs cX4_isLand 2 RX4 wsX4_isLand p s m args meth c (some .boolean) := ⟨B.exec, B.bytes, hml, findClass_of_methodNamed B.named, atoms_spec (ws := wsX4_isLand) B.pre, hK, hD, B.returns, B.notSynchronized, hE⟩
  rw [show entryFrame m args 2 = entryFrame m ([.ref (ad 2), .int a1] : List Value).toArray 2 by rw [ha]]
  refine q_entry (A := A) (Nat.le_of_ble_eq_true rfl) hP (lv := [(0, .ref (ad 2)), (1, .int a1)]) rfl ?_
  unfold fX4_isLand at h
  refine q_iload_n C dX4_isLand_0 rfl 1 rfl ?_
  refine q_join (G := fun (y17 : Int32) => qVi ceC 96 ad cy X A D p l e (headSpec wsX4_isLand rmX4_isLand).room s m args below meth c 2 r0 σ0 17 [] [.int y17] σ) h (fun y17 h => ?_) (fun j17 hj17 h => ?_)
  · exact q_zret C rfl dX4_isLand_17 h
  refine q_join (G := fun (y16 : Unit) => qVi ceC 96 ad cy X A D p l e (headSpec wsX4_isLand rmX4_isLand).room s m args below meth c 2 r0 σ0 16 [] [] σ) h (fun y16 h => ?_) (fun j16 hj16 h => ?_)
  · refine q_iconst C (v := 0) dX4_isLand_16 (by decide) ?_
    exact q_sub [] rfl (hj17 (0 : Int32) h)
  refine q_if_lt C (tgt := 16) dX4_isLand_1 (by decide) h (fun h => ?_) (fun h => ?_)
  · exact q_sub [] rfl (hj16 () h)
  · refine q_iload_n C dX4_isLand_4 rfl 1 rfl ?_
    refine q_aload_n C dX4_isLand_5 rfl 0 rfl ?_
    refine q_get C (Cn := RX4) (T := TX4) (Nf := 8) (ci := 4) (id := 2) (k := 7) (v := .int (σ.1 2 7)) nX4_isLand_X4 (by decide) (ceC_2 ad cy _ _ _) rfl (by decide) rfl hX4_isLand_38 dX4_isLand_6 ?_
    refine q_icmp_ge C (tgt := 16) dX4_isLand_9 (by decide) h (fun h => ?_) (fun h => ?_)
    · exact q_sub [] rfl (hj16 () h)
    · refine q_iconst C (v := 1) dX4_isLand_12 (by decide) ?_
      refine q_goto C (tgt := 17) dX4_isLand_13 (by decide) ?_
      exact q_sub [] rfl (hj17 (1 : Int32) h)
