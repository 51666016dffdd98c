abbrev rmX1_startMonths : Room := { frames := 1, cells := 0, slots := 0, locals := 23 }
theorem hyX1_startMonths : yX1_startMonths.cls = RX1 ∧ yX1_startMonths.cls ≠ "java/lang/invoke/MethodHandle" ∧ yX1_startMonths.cls ≠ "java/lang/invoke/VarHandle" ∧ (parseMethodDescriptor yX1_startMonths.desc).map (fun d => d.parameters.length) = some 1 := by decide +kernel
theorem nX1_startMonths_X1 : ∀ w ∈ u_ws RX1 TX1 10, w ∈ wsX1_startMonths := by decide +kernel
theorem nX1_startMonths_X4 : ∀ w ∈ u_ws RX4 TX4 8, w ∈ wsX1_startMonths := by decide +kernel
theorem hX1_startMonths_11 : Cond.fieldLink RX1 11 (TX1 3).1 (TX1 3).2.1 (TX1 3).2.2.1 ∈ wsX1_startMonths := by decide +kernel
theorem hX1_startMonths_16 : Cond.fieldLink RX1 16 (TX1 4).1 (TX1 4).2.1 (TX1 4).2.2.1 ∈ wsX1_startMonths := by decide +kernel
theorem hX1_startMonths_19 : Cond.fieldLink RX1 19 (TX1 5).1 (TX1 5).2.1 (TX1 5).2.2.1 ∈ wsX1_startMonths := by decide +kernel
theorem hX1_startMonths_36 : Cond.fieldLink RX1 36 (TX1 0).1 (TX1 0).2.1 (TX1 0).2.2.1 ∈ wsX1_startMonths := by decide +kernel
theorem hX1_startMonths_72 : Cond.fieldLink RX1 72 (TX4 2).1 (TX4 2).2.1 (TX4 2).2.2.1 ∈ wsX1_startMonths := by decide +kernel
theorem hX1_startMonths_22 : Cond.fieldLink RX1 22 (TX1 6).1 (TX1 6).2.1 (TX1 6).2.2.1 ∈ wsX1_startMonths := by decide +kernel
def fX1_startMonths (σ : St) (a1 : Int32) : Option (Int32 × St) := qix a1 6 (qcall (fFillI σ (38 + a1.toNatClampNeg) 15 (-1 : Int32)) (fun _ σ7 => qix a1 6 (qcall (fFillI σ7 (45 + a1.toNatClampNeg) 15 (-1 : Int32)) (fun _ σ17 => qix a1 6 (qcall (fFillI σ17 (52 + a1.toNatClampNeg) 15 (-1 : Int32)) (fun _ σ27 => qix a1 6 (qix a1 6 (qix (0 : Int32) 15 (qlet (sI σ27 (38 + a1.toNatClampNeg) (0 : Int32).toNatClampNeg (σ27.1 5 a1.toNatClampNeg)) (fun σ46 => qix a1 6 (qlet (sI σ46 58 a1.toNatClampNeg (0 : Int32)) (fun σ53 => some ((0 : Int32), σ53)))))))))))))
set_option maxHeartbeats 4000000 in
set_option maxRecDepth 100000 in
theorem kX1_startMonths (l : Launch) (D : va_G) (ad : Nat → Nat) (cy : Nat → ClassId) (X : va_W) (A : Nat → Prop) (zs : Nat × Nat × Option Nat) (σ : St) (a1 : Int32) (r0 : Int32) (σ0 : St) (h : fX1_startMonths σ a1 = some (r0, σ0)) : Met l yX1_startMonths wsX1_startMonths rmX1_startMonths (qPc ceC 96 ad cy X A D zs [.ref (ad 36), .int a1] σ) (qQv ceC 96 ad cy X A D σ0) 0 0 A := by
  refine Met.ofW (cc := cX1_startMonths) (maxL := 2) (ret := none) (by decide) rfl ?_
  intro p e s m args below meth c s₁ B hml hv
  obtain ⟨ha, hP, hK, hE, hD⟩ := hv
  have C : qC ceC 96 ad cy X A D zs cX1_startMonths 2 RX1 wsX1_startMonths p s m args meth c none := ⟨B.exec, B.bytes, hml, findClass_of_methodNamed B.named, atoms_spec (ws := wsX1_startMonths) B.pre, hK, hD, B.returns, B.notSynchronized, hE⟩
  rw [show entryFrame m args 2 = entryFrame m ([.ref (ad 36), .int a1] : List Value).toArray 2 by rw [ha]]
  refine q_entry (A := A) (Nat.le_of_ble_eq_true rfl) hP (lv := [(0, .ref (ad 36)), (1, .int a1)]) rfl ?_
  unfold fX1_startMonths at h
  refine q_aload_n C dX1_startMonths_0 rfl 0 rfl ?_
  refine q_get C (Cn := RX1) (T := TX1) (Nf := 10) (ci := 1) (id := 36) (k := 3) (v := .ref (ad 37)) nX1_startMonths_X1 (by decide) (ceC_36 ad cy _ _ _) rfl (by decide) rfl hX1_startMonths_11 dX1_startMonths_1 ?_
  refine q_iload_n C dX1_startMonths_4 rfl 1 rfl ?_
  refine q_aald C (id := 37) (t0 := 6) (by decide) (ceC_37 ad cy _ _ _) rfl rfl dX1_startMonths_5 h (fun _ => rfl) (fun hr5 h => ?_)
  refine q_iconst C (v := -1) dX1_startMonths_6 (by decide) ?_
  refine q_callSv C (rm := rmJ7_fill_53178) (As := [.ref (ad (38 + a1.toNatClampNeg)), .int (-1 : Int32)]) (rest := []) (fun r9 σ9 h9 => kFillI l D ad cy X A zs σ (38 + a1.toNatClampNeg) 15 (-1 : Int32) (by omega) (fun T f g => ceC_r38 ad cy T f g hr5) (by decide) r9 σ9 h9) gX1_startMonths_J7_fill_53178 rfl rfl rfl hyJ7_fill_53178 ⟨Nat.le_of_ble_eq_true rfl, Nat.le_of_ble_eq_true rfl⟩ rfl rfl (Nat.le_of_ble_eq_true rfl) dX1_startMonths_7 ⟨Nat.zero_le _, Nat.zero_le _⟩ h (fun r7 σ7 h => ?_)
  refine q_aload_n C dX1_startMonths_10 rfl 0 rfl ?_
  refine q_get C (Cn := RX1) (T := TX1) (Nf := 10) (ci := 1) (id := 36) (k := 4) (v := .ref (ad 44)) nX1_startMonths_X1 (by decide) (ceC_36 ad cy _ _ _) rfl (by decide) rfl hX1_startMonths_16 dX1_startMonths_11 ?_
  refine q_iload_n C dX1_startMonths_14 rfl 1 rfl ?_
  refine q_aald C (id := 44) (t0 := 6) (by decide) (ceC_44 ad cy _ _ _) rfl rfl dX1_startMonths_15 h (fun _ => rfl) (fun hr15 h => ?_)
  refine q_iconst C (v := -1) dX1_startMonths_16 (by decide) ?_
  refine q_callSv C (rm := rmJ7_fill_53178) (As := [.ref (ad (45 + a1.toNatClampNeg)), .int (-1 : Int32)]) (rest := []) (fun r9 σ9 h9 => kFillI l D ad cy X A zs σ7 (45 + a1.toNatClampNeg) 15 (-1 : Int32) (by omega) (fun T f g => ceC_r45 ad cy T f g hr15) (by decide) r9 σ9 h9) gX1_startMonths_J7_fill_53178 rfl rfl rfl hyJ7_fill_53178 ⟨Nat.le_of_ble_eq_true rfl, Nat.le_of_ble_eq_true rfl⟩ rfl rfl (Nat.le_of_ble_eq_true rfl) dX1_startMonths_17 ⟨Nat.zero_le _, Nat.zero_le _⟩ h (fun r17 σ17 h => ?_)
  refine q_aload_n C dX1_startMonths_20 rfl 0 rfl ?_
  refine q_get C (Cn := RX1) (T := TX1) (Nf := 10) (ci := 1) (id := 36) (k := 5) (v := .ref (ad 51)) nX1_startMonths_X1 (by decide) (ceC_36 ad cy _ _ _) rfl (by decide) rfl hX1_startMonths_19 dX1_startMonths_21 ?_
  refine q_iload_n C dX1_startMonths_24 rfl 1 rfl ?_
  refine q_aald C (id := 51) (t0 := 6) (by decide) (ceC_51 ad cy _ _ _) rfl rfl dX1_startMonths_25 h (fun _ => rfl) (fun hr25 h => ?_)
  refine q_iconst C (v := -1) dX1_startMonths_26 (by decide) ?_
  refine q_callSv C (rm := rmJ7_fill_53178) (As := [.ref (ad (52 + a1.toNatClampNeg)), .int (-1 : Int32)]) (rest := []) (fun r9 σ9 h9 => kFillI l D ad cy X A zs σ17 (52 + a1.toNatClampNeg) 15 (-1 : Int32) (by omega) (fun T f g => ceC_r52 ad cy T f g hr25) (by decide) r9 σ9 h9) gX1_startMonths_J7_fill_53178 rfl rfl rfl hyJ7_fill_53178 ⟨Nat.le_of_ble_eq_true rfl, Nat.le_of_ble_eq_true rfl⟩ rfl rfl (Nat.le_of_ble_eq_true rfl) dX1_startMonths_27 ⟨Nat.zero_le _, Nat.zero_le _⟩ h (fun r27 σ27 h => ?_)
  refine q_aload_n C dX1_startMonths_30 rfl 0 rfl ?_
  refine q_get C (Cn := RX1) (T := TX1) (Nf := 10) (ci := 1) (id := 36) (k := 3) (v := .ref (ad 37)) nX1_startMonths_X1 (by decide) (ceC_36 ad cy _ _ _) rfl (by decide) rfl hX1_startMonths_11 dX1_startMonths_31 ?_
  refine q_iload_n C dX1_startMonths_34 rfl 1 rfl ?_
  refine q_aald C (id := 37) (t0 := 6) (by decide) (ceC_37 ad cy _ _ _) rfl rfl dX1_startMonths_35 h (fun _ => rfl) (fun hr35 h => ?_)
  refine q_iconst C (v := 0) dX1_startMonths_36 (by decide) ?_
  refine q_aload_n C dX1_startMonths_37 rfl 0 rfl ?_
  refine q_get C (Cn := RX1) (T := TX1) (Nf := 10) (ci := 1) (id := 36) (k := 0) (v := .ref (ad 2)) nX1_startMonths_X1 (by decide) (ceC_36 ad cy _ _ _) rfl (by decide) rfl hX1_startMonths_36 dX1_startMonths_38 ?_
  refine q_get C (Cn := RX4) (T := TX4) (Nf := 8) (ci := 4) (id := 2) (k := 2) (v := .ref (ad 5)) nX1_startMonths_X4 (by decide) (ceC_2 ad cy _ _ _) rfl (by decide) rfl hX1_startMonths_72 dX1_startMonths_41 ?_
  refine q_iload_n C dX1_startMonths_44 rfl 1 rfl ?_
  refine q_iald C (id := 5) (by decide) (ceC_5 ad cy _ _ _) dX1_startMonths_45 h (fun h => ?_)
  refine q_iast C (id := (38 + a1.toNatClampNeg)) (by omega) (fun f g => ceC_r38 ad cy _ f g hr35) dX1_startMonths_46 h (fun σ46 h => ?_)
  refine q_aload_n C dX1_startMonths_47 rfl 0 rfl ?_
  refine q_get C (Cn := RX1) (T := TX1) (Nf := 10) (ci := 1) (id := 36) (k := 6) (v := .ref (ad 58)) nX1_startMonths_X1 (by decide) (ceC_36 ad cy _ _ _) rfl (by decide) rfl hX1_startMonths_22 dX1_startMonths_48 ?_
  refine q_iload_n C dX1_startMonths_51 rfl 1 rfl ?_
  refine q_iconst C (v := 0) dX1_startMonths_52 (by decide) ?_
  refine q_iast C (id := 58) (by decide) (fun f g => ceC_58 ad cy _ f g) dX1_startMonths_53 h (fun σ53 h => ?_)
  exact q_vret C (r0 := r0) rfl dX1_startMonths_54 h
abbrev rmX1_beginMonth : Room := { frames := 0, cells := 0, slots := 0, locals := 0 }
theorem hyX1_beginMonth : yX1_beginMonth.cls = RX1 ∧ yX1_beginMonth.cls ≠ "java/lang/invoke/MethodHandle" ∧ yX1_beginMonth.cls ≠ "java/lang/invoke/VarHandle" ∧ (parseMethodDescriptor yX1_beginMonth.desc).map (fun d => d.parameters.length) = some 3 := by decide +kernel
theorem nX1_beginMonth_X1 : ∀ w ∈ u_ws RX1 TX1 10, w ∈ wsX1_beginMonth := by decide +kernel
theorem hX1_beginMonth_22 : Cond.fieldLink RX1 22 (TX1 6).1 (TX1 6).2.1 (TX1 6).2.2.1 ∈ wsX1_beginMonth := by decide +kernel
theorem hX1_beginMonth_11 : Cond.fieldLink RX1 11 (TX1 3).1 (TX1 3).2.1 (TX1 3).2.2.1 ∈ wsX1_beginMonth := by decide +kernel
theorem hX1_beginMonth_16 : Cond.fieldLink RX1 16 (TX1 4).1 (TX1 4).2.1 (TX1 4).2.2.1 ∈ wsX1_beginMonth := by decide +kernel
theorem hX1_beginMonth_19 : Cond.fieldLink RX1 19 (TX1 5).1 (TX1 5).2.1 (TX1 5).2.2.1 ∈ wsX1_beginMonth := by decide +kernel
def fX1_beginMonth (σ : St) (a1 : Int32) (a2 : Int32) (a3 : Int32) : Option (Int32 × St) := qix a1 6 (qlet ((σ.1 58 a1.toNatClampNeg) + (1 : Int32)) (fun x8 => qlet (fun (y55 : St) => (some ((0 : Int32), y55))) (fun j55 => (if (14 : Int32) < x8 then (j55 σ) else (qix a1 6 (qlet (sI σ 58 a1.toNatClampNeg x8) (fun σ24 => qix a1 6 (qix x8 15 (qlet (sI σ24 (38 + a1.toNatClampNeg) x8.toNatClampNeg a2) (fun σ34 => qix a1 6 (qix x8 15 (qlet (sI σ34 (45 + a1.toNatClampNeg) x8.toNatClampNeg a3) (fun σ44 => qix a1 6 (qix x8 15 (qlet (sI σ44 (52 + a1.toNatClampNeg) x8.toNatClampNeg a2) (fun σ54 => j55 σ54))))))))))))))))
set_option maxHeartbeats 4000000 in
set_option maxRecDepth 100000 in
theorem kX1_beginMonth (l : Launch) (D : va_G) (ad : Nat → Nat) (cy : Nat → ClassId) (X : va_W) (A : Nat → Prop) (zs : Nat × Nat × Option Nat) (σ : St) (a1 : Int32) (a2 : Int32) (a3 : Int32) (r0 : Int32) (σ0 : St) (h : fX1_beginMonth σ a1 a2 a3 = some (r0, σ0)) : Met l yX1_beginMonth wsX1_beginMonth rmX1_beginMonth (qPc ceC 96 ad cy X A D zs [.ref (ad 36), .int a1, .int a2, .int a3] σ) (qQv ceC 96 ad cy X A D σ0) 0 0 A := by
  refine Met.ofW (cc := cX1_beginMonth) (maxL := 5) (ret := none) (by decide) rfl ?_
  intro p e s m args below meth c s₁ B hml hv
  obtain ⟨ha, hP, hK, hE, hD⟩ := hv
  have C : qC ceC 96 ad cy X A D zs cX1_beginMonth 5 RX1 wsX1_beginMonth p s m args meth c none := ⟨B.exec, B.bytes, hml, findClass_of_methodNamed B.named, atoms_spec (ws := wsX1_beginMonth) B.pre, hK, hD, B.returns, B.notSynchronized, hE⟩
  rw [show entryFrame m args 5 = entryFrame m ([.ref (ad 36), .int a1, .int a2, .int a3] : List Value).toArray 5 by rw [ha]]
  refine q_entry (A := A) (Nat.le_of_ble_eq_true rfl) hP (lv := [(0, .ref (ad 36)), (1, .int a1), (2, .int a2), (3, .int a3)]) rfl ?_
  unfold fX1_beginMonth at h
  refine q_aload_n C dX1_beginMonth_0 rfl 0 rfl ?_
  refine q_get C (Cn := RX1) (T := TX1) (Nf := 10) (ci := 1) (id := 36) (k := 6) (v := .ref (ad 58)) nX1_beginMonth_X1 (by decide) (ceC_36 ad cy _ _ _) rfl (by decide) rfl hX1_beginMonth_22 dX1_beginMonth_1 ?_
  refine q_iload_n C dX1_beginMonth_4 rfl 1 rfl ?_
  refine q_iald C (id := 58) (by decide) (ceC_58 ad cy _ _ _) dX1_beginMonth_5 h (fun h => ?_)
  refine q_iconst C (v := 1) dX1_beginMonth_6 (by decide) ?_
  refine q_iadd C dX1_beginMonth_7 ?_
  refine q_istoreL C dX1_beginMonth_8 (by decide) h (lw := fun x8 => [(0, .ref (ad 36)), (1, .int a1), (2, .int a2), (3, .int a3), (4, .int x8)]) (fun _ => rfl) (fun x8 h => ?_)
  refine q_iload C dX1_beginMonth_10 4 rfl ?_
  refine q_bipush C (v := 14) dX1_beginMonth_12 (by decide) ?_
  refine q_join (G := fun (y55 : St) => qVv ceC 96 ad cy X A D p l e (headSpec wsX1_beginMonth rmX1_beginMonth).room s m args below meth c 5 r0 σ0 55 [] [] y55) h (fun y55 h => ?_) (fun j55 hj55 h => ?_)
  · exact q_vret C (r0 := r0) rfl dX1_beginMonth_55 h
  refine q_icmp_gt C (tgt := 55) dX1_beginMonth_14 (by decide) h (fun h => ?_) (fun h => ?_)
  · exact q_sub [] rfl (hj55 σ h)
  · refine q_aload_n C dX1_beginMonth_17 rfl 0 rfl ?_
    refine q_get C (Cn := RX1) (T := TX1) (Nf := 10) (ci := 1) (id := 36) (k := 6) (v := .ref (ad 58)) nX1_beginMonth_X1 (by decide) (ceC_36 ad cy _ _ _) rfl (by decide) rfl hX1_beginMonth_22 dX1_beginMonth_18 ?_
    refine q_iload_n C dX1_beginMonth_21 rfl 1 rfl ?_
    refine q_iload C dX1_beginMonth_22 4 rfl ?_
    refine q_iast C (id := 58) (by decide) (fun f g => ceC_58 ad cy _ f g) dX1_beginMonth_24 h (fun σ24 h => ?_)
    refine q_aload_n C dX1_beginMonth_25 rfl 0 rfl ?_
    refine q_get C (Cn := RX1) (T := TX1) (Nf := 10) (ci := 1) (id := 36) (k := 3) (v := .ref (ad 37)) nX1_beginMonth_X1 (by decide) (ceC_36 ad cy _ _ _) rfl (by decide) rfl hX1_beginMonth_11 dX1_beginMonth_26 ?_
    refine q_iload_n C dX1_beginMonth_29 rfl 1 rfl ?_
    refine q_aald C (id := 37) (t0 := 6) (by decide) (ceC_37 ad cy _ _ _) rfl rfl dX1_beginMonth_30 h (fun _ => rfl) (fun hr30 h => ?_)
    refine q_iload C dX1_beginMonth_31 4 rfl ?_
    refine q_iload_n C dX1_beginMonth_33 rfl 2 rfl ?_
    refine q_iast C (id := (38 + a1.toNatClampNeg)) (by omega) (fun f g => ceC_r38 ad cy _ f g hr30) dX1_beginMonth_34 h (fun σ34 h => ?_)
    refine q_aload_n C dX1_beginMonth_35 rfl 0 rfl ?_
    refine q_get C (Cn := RX1) (T := TX1) (Nf := 10) (ci := 1) (id := 36) (k := 4) (v := .ref (ad 44)) nX1_beginMonth_X1 (by decide) (ceC_36 ad cy _ _ _) rfl (by decide) rfl hX1_beginMonth_16 dX1_beginMonth_36 ?_
    refine q_iload_n C dX1_beginMonth_39 rfl 1 rfl ?_
    refine q_aald C (id := 44) (t0 := 6) (by decide) (ceC_44 ad cy _ _ _) rfl rfl dX1_beginMonth_40 h (fun _ => rfl) (fun hr40 h => ?_)
    refine q_iload C dX1_beginMonth_41 4 rfl ?_
    refine q_iload_n C dX1_beginMonth_43 rfl 3 rfl ?_
    refine q_iast C (id := (45 + a1.toNatClampNeg)) (by omega) (fun f g => ceC_r45 ad cy _ f g hr40) dX1_beginMonth_44 h (fun σ44 h => ?_)
    refine q_aload_n C dX1_beginMonth_45 rfl 0 rfl ?_
    refine q_get C (Cn := RX1) (T := TX1) (Nf := 10) (ci := 1) (id := 36) (k := 5) (v := .ref (ad 51)) nX1_beginMonth_X1 (by decide) (ceC_36 ad cy _ _ _) rfl (by decide) rfl hX1_beginMonth_19 dX1_beginMonth_46 ?_
    refine q_iload_n C dX1_beginMonth_49 rfl 1 rfl ?_
    refine q_aald C (id := 51) (t0 := 6) (by decide) (ceC_51 ad cy _ _ _) rfl rfl dX1_beginMonth_50 h (fun _ => rfl) (fun hr50 h => ?_)
    refine q_iload C dX1_beginMonth_51 4 rfl ?_
    refine q_iload_n C dX1_beginMonth_53 rfl 2 rfl ?_
    refine q_iast C (id := (52 + a1.toNatClampNeg)) (by omega) (fun f g => ceC_r52 ad cy _ f g hr50) dX1_beginMonth_54 h (fun σ54 h => ?_)
    exact q_sub [] rfl (hj55 σ54 h)
abbrev rmX1_countSeer : Room := { frames := 1, cells := 0, slots := 0, locals := 24 }
theorem hyX1_countSeer : yX1_countSeer.cls = RX1 ∧ yX1_countSeer.cls ≠ "java/lang/invoke/MethodHandle" ∧ yX1_countSeer.cls ≠ "java/lang/invoke/VarHandle" ∧ (parseMethodDescriptor yX1_countSeer.desc).map (fun d => d.parameters.length) = some 2 := by decide +kernel
theorem nX1_countSeer_X1 : ∀ w ∈ u_ws RX1 TX1 10, w ∈ wsX1_countSeer := by decide +kernel
theorem hX1_countSeer_29 : Cond.fieldLink RX1 29 (TX1 8).1 (TX1 8).2.1 (TX1 8).2.2.1 ∈ wsX1_countSeer := by decide +kernel
theorem hX1_countSeer_40 : Cond.fieldLink RX1 40 (TX1 1).1 (TX1 1).2.1 (TX1 1).2.2.1 ∈ wsX1_countSeer := by decide +kernel
theorem hX1_countSeer_26 : Cond.fieldLink RX1 26 (TX1 7).1 (TX1 7).2.1 (TX1 7).2.2.1 ∈ wsX1_countSeer := by decide +kernel
theorem hX1_countSeer_126 : Cond.methodLink RX1 126 Lib.Math.max.name ∈ wsX1_countSeer := by decide +kernel
theorem hX1_countSeer_maxs : Cond.static Lib.Math.max.name ∈ wsX1_countSeer := by decide +kernel
theorem hX1_countSeer_mi : Cond.initialized "java/lang/Math" ∈ wsX1_countSeer := by decide +kernel
theorem hX1_countSeer_maxc : Cond.code Lib.Math.max.name Lib.Math.max.code 2 (some .int) ∈ wsX1_countSeer := by decide +kernel
def fX1_countSeer (σ : St) (a1 : Int32) (a2 : Int32) : Option (Int32 × St) := qlet ((1 : Int32) <<< (a1 &&& 31)) (fun x3 => if ((σ.1 36 8) &&& x3) = (0 : Int32) then (qlet (sI σ 36 8 ((σ.1 36 8) ||| x3)) (fun σ21 => qcall (fX0_worthOn σ21 a1 a2) (fun r30 σ30 => qix (7 : Int32) 14 (qix (7 : Int32) 14 (qlet (sI σ30 59 (7 : Int32).toNatClampNeg ((σ30.1 59 (7 : Int32).toNatClampNeg) + (1 : Int32))) (fun σ45 => qix (8 : Int32) 14 (qix (8 : Int32) 14 (qlet (sI σ45 59 (8 : Int32).toNatClampNeg ((σ45.1 59 (8 : Int32).toNatClampNeg) + r30)) (fun σ57 => qix (9 : Int32) 14 (qix (9 : Int32) 14 (qlet (sI σ57 59 (9 : Int32).toNatClampNeg (if (σ57.1 59 (9 : Int32).toNatClampNeg) < r30 then r30 else (σ57.1 59 (9 : Int32).toNatClampNeg))) (fun σ76 => some ((0 : Int32), σ76))))))))))))) else (some ((0 : Int32), σ)))
set_option maxHeartbeats 4000000 in
set_option maxRecDepth 100000 in
theorem kX1_countSeer (l : Launch) (D : va_G) (ad : Nat → Nat) (cy : Nat → ClassId) (X : va_W) (A : Nat → Prop) (zs : Nat × Nat × Option Nat) (σ : St) (a1 : Int32) (a2 : Int32) (r0 : Int32) (σ0 : St) (h : fX1_countSeer σ a1 a2 = some (r0, σ0)) : Met l yX1_countSeer wsX1_countSeer rmX1_countSeer (qPc ceC 96 ad cy X A D zs [.ref (ad 36), .int a1, .int a2] σ) (qQv ceC 96 ad cy X A D σ0) 0 0 A := by
  refine Met.ofW (cc := cX1_countSeer) (maxL := 5) (ret := none) (by decide) rfl ?_
  intro p e s m args below meth c s₁ B hml hv
  obtain ⟨ha, hP, hK, hE, hD⟩ := hv
  have C : qC ceC 96 ad cy X A D zs cX1_countSeer 5 RX1 wsX1_countSeer p s m args meth c none := ⟨B.exec, B.bytes, hml, findClass_of_methodNamed B.named, atoms_spec (ws := wsX1_countSeer) B.pre, hK, hD, B.returns, B.notSynchronized, hE⟩
  rw [show entryFrame m args 5 = entryFrame m ([.ref (ad 36), .int a1, .int a2] : List Value).toArray 5 by rw [ha]]
  refine q_entry (A := A) (Nat.le_of_ble_eq_true rfl) hP (lv := [(0, .ref (ad 36)), (1, .int a1), (2, .int a2)]) rfl ?_
  unfold fX1_countSeer at h
  refine q_iconst C (v := 1) dX1_countSeer_0 (by decide) ?_
  refine q_iload_n C dX1_countSeer_1 rfl 1 rfl ?_
  refine q_ishl C dX1_countSeer_2 ?_
  refine q_istore_nL C dX1_countSeer_3 rfl (by decide) h (lw := fun x3 => [(0, .ref (ad 36)), (1, .int a1), (2, .int a2), (3, .int x3)]) (fun _ => rfl) (fun x3 h => ?_)
  refine q_aload_n C dX1_countSeer_4 rfl 0 rfl ?_
  refine q_get C (Cn := RX1) (T := TX1) (Nf := 10) (ci := 1) (id := 36) (k := 8) (v := .int (σ.1 36 8)) nX1_countSeer_X1 (by decide) (ceC_36 ad cy _ _ _) rfl (by decide) rfl hX1_countSeer_29 dX1_countSeer_5 ?_
  refine q_iload_n C dX1_countSeer_8 rfl 3 rfl ?_
  refine q_iand C dX1_countSeer_9 ?_
  refine q_if_eq C (tgt := 14) dX1_countSeer_10 (by decide) h (fun h => ?_) (fun h => ?_)
  · refine q_aload_n C dX1_countSeer_14 rfl 0 rfl ?_
    refine q_dup C dX1_countSeer_15 rfl ?_
    refine q_get C (Cn := RX1) (T := TX1) (Nf := 10) (ci := 1) (id := 36) (k := 8) (v := .int (σ.1 36 8)) nX1_countSeer_X1 (by decide) (ceC_36 ad cy _ _ _) rfl (by decide) rfl hX1_countSeer_29 dX1_countSeer_16 ?_
    refine q_iload_n C dX1_countSeer_19 rfl 3 rfl ?_
    refine q_ior C dX1_countSeer_20 ?_
    refine q_put C (Cn := RX1) (T := TX1) (ty0 := tyX1) (Nf := 10) (ci := 1) (id := 36) (k := 8) (y := 0) tyX1_ok nmX1 nX1_countSeer_X1 (by decide) (ceC_36 ad cy _ _ _) (ceC_36 ad cy _ _ _) rfl (by decide) rfl (by decide +kernel) (Nat.le_of_ble_eq_true rfl) hX1_countSeer_29 dX1_countSeer_21 h (fun σ21 h => ?_)
    refine q_aload_n C dX1_countSeer_24 rfl 0 rfl ?_
    refine q_get C (Cn := RX1) (T := TX1) (Nf := 10) (ci := 1) (id := 36) (k := 1) (v := .ref (ad 21)) nX1_countSeer_X1 (by decide) (ceC_36 ad cy _ _ _) rfl (by decide) rfl hX1_countSeer_40 dX1_countSeer_25 ?_
    refine q_iload_n C dX1_countSeer_28 rfl 1 rfl ?_
    refine q_iload_n C dX1_countSeer_29 rfl 2 rfl ?_
    refine q_callVi C (rm := rmX0_worthOn) (As := [.int a1, .int a2]) (rest := []) (id := 21) (ci := 0) (fun r9 σ9 h9 => kX0_worthOn l D ad cy X A zs σ21 a1 a2 r9 σ9 h9) gX1_countSeer_X0_worthOn rfl rfl rfl hyX0_worthOn ⟨Nat.le_of_ble_eq_true rfl, Nat.le_of_ble_eq_true rfl⟩ (by decide) (ceC_21 ad cy _ _ _) rfl rfl rfl (Nat.le_of_ble_eq_true rfl) dX1_countSeer_30 ⟨Nat.zero_le _, Nat.zero_le _⟩ h (fun r30 σ30 h => ?_)
    refine q_istore C dX1_countSeer_33 (by decide) (lv' := [(0, .ref (ad 36)), (1, .int a1), (2, .int a2), (3, .int x3), (4, .int r30)]) rfl ?_
    refine q_aload_n C dX1_countSeer_35 rfl 0 rfl ?_
    refine q_get C (Cn := RX1) (T := TX1) (Nf := 10) (ci := 1) (id := 36) (k := 7) (v := .ref (ad 59)) nX1_countSeer_X1 (by decide) (ceC_36 ad cy _ _ _) rfl (by decide) rfl hX1_countSeer_26 dX1_countSeer_36 ?_
    refine q_bipush C (v := 7) dX1_countSeer_39 (by decide) ?_
    refine q_dup2 C dX1_countSeer_41 rfl rfl ?_
    refine q_iald C (id := 59) (by decide) (ceC_59 ad cy _ _ _) dX1_countSeer_42 h (fun h => ?_)
    refine q_iconst C (v := 1) dX1_countSeer_43 (by decide) ?_
    refine q_iadd C dX1_countSeer_44 ?_
    refine q_iast C (id := 59) (by decide) (fun f g => ceC_59 ad cy _ f g) dX1_countSeer_45 h (fun σ45 h => ?_)
    refine q_aload_n C dX1_countSeer_46 rfl 0 rfl ?_
    refine q_get C (Cn := RX1) (T := TX1) (Nf := 10) (ci := 1) (id := 36) (k := 7) (v := .ref (ad 59)) nX1_countSeer_X1 (by decide) (ceC_36 ad cy _ _ _) rfl (by decide) rfl hX1_countSeer_26 dX1_countSeer_47 ?_
    refine q_bipush C (v := 8) dX1_countSeer_50 (by decide) ?_
    refine q_dup2 C dX1_countSeer_52 rfl rfl ?_
    refine q_iald C (id := 59) (by decide) (ceC_59 ad cy _ _ _) dX1_countSeer_53 h (fun h => ?_)
    refine q_iload C dX1_countSeer_54 4 rfl ?_
    refine q_iadd C dX1_countSeer_56 ?_
    refine q_iast C (id := 59) (by decide) (fun f g => ceC_59 ad cy _ f g) dX1_countSeer_57 h (fun σ57 h => ?_)
    refine q_aload_n C dX1_countSeer_58 rfl 0 rfl ?_
    refine q_get C (Cn := RX1) (T := TX1) (Nf := 10) (ci := 1) (id := 36) (k := 7) (v := .ref (ad 59)) nX1_countSeer_X1 (by decide) (ceC_36 ad cy _ _ _) rfl (by decide) rfl hX1_countSeer_26 dX1_countSeer_59 ?_
    refine q_bipush C (v := 9) dX1_countSeer_62 (by decide) ?_
    refine q_aload_n C dX1_countSeer_64 rfl 0 rfl ?_
    refine q_get C (Cn := RX1) (T := TX1) (Nf := 10) (ci := 1) (id := 36) (k := 7) (v := .ref (ad 59)) nX1_countSeer_X1 (by decide) (ceC_36 ad cy _ _ _) rfl (by decide) rfl hX1_countSeer_26 dX1_countSeer_65 ?_
    refine q_bipush C (v := 9) dX1_countSeer_68 (by decide) ?_
    refine q_iald C (id := 59) (by decide) (ceC_59 ad cy _ _ _) dX1_countSeer_70 h (fun h => ?_)
    refine q_iload C dX1_countSeer_71 4 rfl ?_
    refine q_mmax C hX1_countSeer_126 hX1_countSeer_maxs hX1_countSeer_mi hX1_countSeer_maxc (Nat.le_of_ble_eq_true rfl) (Nat.le_of_ble_eq_true rfl) ⟨Nat.zero_le _, Nat.zero_le _⟩ dX1_countSeer_73 ?_
    refine q_iast C (id := 59) (by decide) (fun f g => ceC_59 ad cy _ f g) dX1_countSeer_76 h (fun σ76 h => ?_)
    exact q_vret C (r0 := r0) rfl dX1_countSeer_77 h
  · exact q_vret C (r0 := r0) rfl dX1_countSeer_13 h
abbrev rmX1_countOthers : Room := { frames := 1, cells := 0, slots := 0, locals := 24 }
theorem hyX1_countOthers : yX1_countOthers.cls = RX1 ∧ yX1_countOthers.cls ≠ "java/lang/invoke/MethodHandle" ∧ yX1_countOthers.cls ≠ "java/lang/invoke/VarHandle" ∧ (parseMethodDescriptor yX1_countOthers.desc).map (fun d => d.parameters.length) = some 4 := by decide +kernel
theorem nX1_countOthers_X1 : ∀ w ∈ u_ws RX1 TX1 10, w ∈ wsX1_countOthers := by decide +kernel
theorem nX1_countOthers_X4 : ∀ w ∈ u_ws RX4 TX4 8, w ∈ wsX1_countOthers := by decide +kernel
theorem hX1_countOthers_36 : Cond.fieldLink RX1 36 (TX1 0).1 (TX1 0).2.1 (TX1 0).2.2.1 ∈ wsX1_countOthers := by decide +kernel
theorem hX1_countOthers_54 : Cond.fieldLink RX1 54 (TX4 7).1 (TX4 7).2.1 (TX4 7).2.2.1 ∈ wsX1_countOthers := by decide +kernel
theorem hX1_countOthers_22 : Cond.fieldLink RX1 22 (TX1 6).1 (TX1 6).2.1 (TX1 6).2.2.1 ∈ wsX1_countOthers := by decide +kernel
theorem hX1_countOthers_11 : Cond.fieldLink RX1 11 (TX1 3).1 (TX1 3).2.1 (TX1 3).2.2.1 ∈ wsX1_countOthers := by decide +kernel
def fX1_countOthers_L (a1 : Int32) (a2 : Int32) (a3 : Int32) (a4 : Int32) : Nat → Int32 → Int32 → St → Option (Int32 × St)
  | 0, _, _, _ => none
  | n + 1, v5, v6, σ => if (σ.1 2 7) ≤ v6 then (some (v5, σ)) else (qlet (fun (y72 : Int32 × St) => (qlet (v6 + (1 : Int32)) (fun x72 => fX1_countOthers_L a1 a2 a3 a4 n y72.1 x72 y72.2))) (fun j72 => (if v6 = a1 then (j72 (v5, σ)) else (qix v6 6 (if (σ.1 58 v6.toNatClampNeg) < a2 then (j72 (v5, σ)) else (qix v6 6 (qix a2 15 (qlet (σ.1 (38 + v6.toNatClampNeg) a2.toNatClampNeg) (fun x44 => if a4 < x44 then (j72 (v5, σ)) else (qcall (fX4_isNewsThere σ v6 a1 x44 a3) (fun r63 σ63 => if r63 = (0 : Int32) then (j72 (v5, σ63)) else (qlet (v5 + (1 : Int32)) (fun x69 => j72 (x69, σ63))))))))))))))
def fX1_countOthers (σ : St) (a1 : Int32) (a2 : Int32) (a3 : Int32) (a4 : Int32) : Option (Int32 × St) := fX1_countOthers_L a1 a2 a3 a4 100000 (0 : Int32) (0 : Int32) σ
set_option maxHeartbeats 4000000 in
set_option maxRecDepth 100000 in
theorem kX1_countOthers_L {ad : Nat → Nat} {cy : Nat → ClassId} {X : va_W} {A : Nat → Prop} {D : va_G} {zs : Nat × Nat × Option Nat} {p : Program} {l : Launch} {e : Env} {s : State} {m : MethodId} {args : Array Value} {below : List Frame} {meth : Method} {c : Code} {a1 : Int32} {a2 : Int32} {a3 : Int32} {a4 : Int32} (C : qC ceC 96 ad cy X A D zs cX1_countOthers 8 RX1 wsX1_countOthers p s m args meth c (some .int)) (r0 : Int32) (σ0 : St) (n : Nat) : (∀ (v5 : Int32) (v6 : Int32) (σ : St), fX1_countOthers_L a1 a2 a3 a4 n v5 v6 σ = some (r0, σ0) → qVi ceC 96 ad cy X A D p l e (headSpec wsX1_countOthers rmX1_countOthers).room s m args below meth c 8 r0 σ0 6 [(0, .ref (ad 36)), (1, .int a1), (2, .int a2), (3, .int a3), (4, .int a4), (5, .int v5), (6, .int v6)] [] σ) := by
  induction n with
  | zero =>
    intro v5 v6 σ h; cases h
  | succ n ih =>
    intro v5 v6 σ h
    rw [fX1_countOthers_L] at h
    refine q_iload C dX1_countOthers_6 6 rfl ?_
    refine q_aload_n C dX1_countOthers_8 rfl 0 rfl ?_
    refine q_get C (Cn := RX1) (T := TX1) (Nf := 10) (ci := 1) (id := 36) (k := 0) (v := .ref (ad 2)) nX1_countOthers_X1 (by decide) (ceC_36 ad cy _ _ _) rfl (by decide) rfl hX1_countOthers_36 dX1_countOthers_9 ?_
    refine q_get C (Cn := RX4) (T := TX4) (Nf := 8) (ci := 4) (id := 2) (k := 7) (v := .int (σ.1 2 7)) nX1_countOthers_X4 (by decide) (ceC_2 ad cy _ _ _) rfl (by decide) rfl hX1_countOthers_54 dX1_countOthers_12 ?_
    refine q_icmp_ge C (tgt := 78) dX1_countOthers_15 (by decide) h (fun h => ?_) (fun h => ?_)
    · refine q_iload C dX1_countOthers_78 5 rfl ?_
      exact q_iret C rfl dX1_countOthers_80 h
    · refine q_iload C dX1_countOthers_18 6 rfl ?_
      refine q_iload_n C dX1_countOthers_20 rfl 1 rfl ?_
      refine q_join (G := fun (y72 : Int32 × St) => qVi ceC 96 ad cy X A D p l e (headSpec wsX1_countOthers rmX1_countOthers).room s m args below meth c 8 r0 σ0 72 [(0, .ref (ad 36)), (1, .int a1), (2, .int a2), (3, .int a3), (4, .int a4), (5, .int y72.1), (6, .int v6)] [] y72.2) h (fun y72 h => ?_) (fun j72 hj72 h => ?_)
      · refine q_iincL C dX1_countOthers_72 6 rfl (by decide) (nv := 1) (by decide) h (lw := fun x72 => [(0, .ref (ad 36)), (1, .int a1), (2, .int a2), (3, .int a3), (4, .int a4), (5, .int y72.1), (6, .int x72)]) (fun _ => rfl) (fun x72 h => ?_)
        refine q_goto C (tgt := 6) dX1_countOthers_75 (by decide) ?_
        exact q_sub [0, 1, 2, 3, 4, 5, 6] rfl (ih y72.1 x72 y72.2 h)
      refine q_icmp_eq C (tgt := 72) dX1_countOthers_21 (by decide) h (fun h => ?_) (fun h => ?_)
      · exact q_sub [0, 1, 2, 3, 4, 5, 6] rfl (hj72 (v5, σ) h)
      · refine q_iload_n C dX1_countOthers_24 rfl 2 rfl ?_
        refine q_aload_n C dX1_countOthers_25 rfl 0 rfl ?_
        refine q_get C (Cn := RX1) (T := TX1) (Nf := 10) (ci := 1) (id := 36) (k := 6) (v := .ref (ad 58)) nX1_countOthers_X1 (by decide) (ceC_36 ad cy _ _ _) rfl (by decide) rfl hX1_countOthers_22 dX1_countOthers_26 ?_
        refine q_iload C dX1_countOthers_29 6 rfl ?_
        refine q_iald C (id := 58) (by decide) (ceC_58 ad cy _ _ _) dX1_countOthers_31 h (fun h => ?_)
        refine q_icmp_gt C (tgt := 72) dX1_countOthers_32 (by decide) h (fun h => ?_) (fun h => ?_)
        · exact q_sub [0, 1, 2, 3, 4, 5, 6] rfl (hj72 (v5, σ) h)
        · refine q_aload_n C dX1_countOthers_35 rfl 0 rfl ?_
          refine q_get C (Cn := RX1) (T := TX1) (Nf := 10) (ci := 1) (id := 36) (k := 3) (v := .ref (ad 37)) nX1_countOthers_X1 (by decide) (ceC_36 ad cy _ _ _) rfl (by decide) rfl hX1_countOthers_11 dX1_countOthers_36 ?_
          refine q_iload C dX1_countOthers_39 6 rfl ?_
          refine q_aald C (id := 37) (t0 := 6) (by decide) (ceC_37 ad cy _ _ _) rfl rfl dX1_countOthers_41 h (fun _ => rfl) (fun hr41 h => ?_)
          refine q_iload_n C dX1_countOthers_42 rfl 2 rfl ?_
          refine q_iald C (id := (38 + v6.toNatClampNeg)) (by omega) (ceC_r38 ad cy _ _ _ hr41) dX1_countOthers_43 h (fun h => ?_)
          refine q_istoreL C dX1_countOthers_44 (by decide) h (lw := fun x44 => [(0, .ref (ad 36)), (1, .int a1), (2, .int a2), (3, .int a3), (4, .int a4), (5, .int v5), (6, .int v6), (7, .int x44)]) (fun _ => rfl) (fun x44 h => ?_)
          refine q_iload C dX1_countOthers_46 7 rfl ?_
          refine q_iload C dX1_countOthers_48 4 rfl ?_
          refine q_icmp_gt C (tgt := 72) dX1_countOthers_50 (by decide) h (fun h => ?_) (fun h => ?_)
          · exact q_sub [0, 1, 2, 3, 4, 5, 6] rfl (hj72 (v5, σ) h)
          · refine q_aload_n C dX1_countOthers_53 rfl 0 rfl ?_
            refine q_get C (Cn := RX1) (T := TX1) (Nf := 10) (ci := 1) (id := 36) (k := 0) (v := .ref (ad 2)) nX1_countOthers_X1 (by decide) (ceC_36 ad cy _ _ _) rfl (by decide) rfl hX1_countOthers_36 dX1_countOthers_54 ?_
            refine q_iload C dX1_countOthers_57 6 rfl ?_
            refine q_iload_n C dX1_countOthers_59 rfl 1 rfl ?_
            refine q_iload C dX1_countOthers_60 7 rfl ?_
            refine q_iload_n C dX1_countOthers_62 rfl 3 rfl ?_
            refine q_callVi C (rm := rmX4_isNewsThere) (As := [.int v6, .int a1, .int x44, .int a3]) (rest := []) (id := 2) (ci := 4) (fun r9 σ9 h9 => kX4_isNewsThere l D ad cy X A zs σ v6 a1 x44 a3 r9 σ9 h9) gX1_countOthers_X4_isNewsThere rfl rfl rfl hyX4_isNewsThere ⟨Nat.le_of_ble_eq_true rfl, Nat.le_of_ble_eq_true rfl⟩ (by decide) (ceC_2 ad cy _ _ _) rfl rfl rfl (Nat.le_of_ble_eq_true rfl) dX1_countOthers_63 ⟨Nat.zero_le _, Nat.zero_le _⟩ h (fun r63 σ63 h => ?_)
            refine q_if_eq C (tgt := 72) dX1_countOthers_66 (by decide) h (fun h => ?_) (fun h => ?_)
            · exact q_sub [0, 1, 2, 3, 4, 5, 6] rfl (hj72 (v5, σ63) h)
            · refine q_iincL C dX1_countOthers_69 5 rfl (by decide) (nv := 1) (by decide) h (lw := fun x69 => [(0, .ref (ad 36)), (1, .int a1), (2, .int a2), (3, .int a3), (4, .int a4), (5, .int x69), (6, .int v6), (7, .int x44)]) (fun _ => rfl) (fun x69 h => ?_)
              exact q_sub [0, 1, 2, 3, 4, 5, 6] rfl (hj72 (x69, σ63) h)
set_option maxHeartbeats 4000000 in
set_option maxRecDepth 100000 in
theorem kX1_countOthers (l : Launch) (D : va_G) (ad : Nat → Nat) (cy : Nat → ClassId) (X : va_W) (A : Nat → Prop) (zs : Nat × Nat × Option Nat) (σ : St) (a1 : Int32) (a2 : Int32) (a3 : Int32) (a4 : Int32) (r0 : Int32) (σ0 : St) (h : fX1_countOthers σ a1 a2 a3 a4 = some (r0, σ0)) : Met l yX1_countOthers wsX1_countOthers rmX1_countOthers (qPc ceC 96 ad cy X A D zs [.ref (ad 36), .int a1, .int a2, .int a3, .int a4] σ) (qQi ceC 96 ad cy X A D r0 σ0) 0 0 A := by
  refine Met.ofW (cc := cX1_countOthers) (maxL := 8) (ret := (some .int)) (by decide) rfl ?_
  intro p e s m args below meth c s₁ B hml hv
  obtain ⟨ha, hP, hK, hE, hD⟩ := hv
  have C : qC ceC 96 ad cy X A D zs cX1_countOthers 8 RX1 wsX1_countOthers p s m args meth c (some .int) := ⟨B.exec, B.bytes, hml, findClass_of_methodNamed B.named, atoms_spec (ws := wsX1_countOthers) B.pre, hK, hD, B.returns, B.notSynchronized, hE⟩
  rw [show entryFrame m args 8 = entryFrame m ([.ref (ad 36), .int a1, .int a2, .int a3, .int a4] : List Value).toArray 8 by rw [ha]]
  refine q_entry (A := A) (Nat.le_of_ble_eq_true rfl) hP (lv := [(0, .ref (ad 36)), (1, .int a1), (2, .int a2), (3, .int a3), (4, .int a4)]) rfl ?_
  unfold fX1_countOthers at h
  refine q_iconst C (v := 0) dX1_countOthers_0 (by decide) ?_
  refine q_istore C dX1_countOthers_1 (by decide) (lv' := [(0, .ref (ad 36)), (1, .int a1), (2, .int a2), (3, .int a3), (4, .int a4), (5, .int (0 : Int32))]) rfl ?_
  refine q_iconst C (v := 0) dX1_countOthers_3 (by decide) ?_
  refine q_istore C dX1_countOthers_4 (by decide) (lv' := [(0, .ref (ad 36)), (1, .int a1), (2, .int a2), (3, .int a3), (4, .int a4), (5, .int (0 : Int32)), (6, .int (0 : Int32))]) rfl ?_
  exact q_sub [0, 1, 2, 3, 4, 5, 6] rfl ((kX1_countOthers_L C r0 σ0 100000) (0 : Int32) (0 : Int32) σ h)
abbrev rmX1_askVars : Room := { frames := 2, cells := 0, slots := 0, locals := 51 }
theorem hyX1_askVars : yX1_askVars.cls = RX1 ∧ yX1_askVars.cls ≠ "java/lang/invoke/MethodHandle" ∧ yX1_askVars.cls ≠ "java/lang/invoke/VarHandle" ∧ (parseMethodDescriptor yX1_askVars.desc).map (fun d => d.parameters.length) = some 3 := by decide +kernel
theorem nX1_askVars_X0 : ∀ w ∈ u_ws RX0 TX0 9, w ∈ wsX1_askVars := fun w h => List.mem_cons_of_mem _ (List.mem_append_left _ (List.mem_append_right _ h))
theorem nX1_askVars_X1 : ∀ w ∈ u_ws RX1 TX1 10, w ∈ wsX1_askVars := fun w h => List.mem_cons_of_mem _ (List.mem_append_left _ (List.mem_append_left _ (List.mem_append_right _ h)))
theorem hX1_askVars_29 : Cond.fieldLink RX1 29 (TX1 8).1 (TX1 8).2.1 (TX1 8).2.2.1 ∈ wsX1_askVars := by decide +kernel
theorem hX1_askVars_26 : Cond.fieldLink RX1 26 (TX1 7).1 (TX1 7).2.1 (TX1 7).2.2.1 ∈ wsX1_askVars := by decide +kernel
theorem hX1_askVars_40 : Cond.fieldLink RX1 40 (TX1 1).1 (TX1 1).2.1 (TX1 1).2.2.1 ∈ wsX1_askVars := by decide +kernel
theorem hX1_askVars_98 : Cond.fieldLink RX1 98 (TX0 8).1 (TX0 8).2.1 (TX0 8).2.2.1 ∈ wsX1_askVars := by decide +kernel
theorem hX1_askVars_105 : Cond.fieldLink RX1 105 (TX0 4).1 (TX0 4).2.1 (TX0 4).2.2.1 ∈ wsX1_askVars := by decide +kernel
theorem hX1_askVars_36 : Cond.fieldLink RX1 36 (TX1 0).1 (TX1 0).2.1 (TX1 0).2.2.1 ∈ wsX1_askVars := by decide +kernel
def fX1_askVars_L (a1 : Int32) (a2 : Int32) (a3 : Int32) : Nat → Int32 → St → Option (Int32 × St)
  | 0, _, _ => none
  | n + 1, v4, σ => if (σ.1 21 8) ≤ v4 then (qcall (fX4_lightOn σ a1 a3) (fun r92 σ92 => qix (10 : Int32) 14 (qlet (sI σ92 59 (10 : Int32).toNatClampNeg r92) (fun σ95 => qcall (fX0_isCloudy σ95 a1 a3 (σ95.1 21 8)) (fun r115 σ115 => qlet (fun (y126 : Int32) => (qix (11 : Int32) 14 (qlet (sI σ115 59 (11 : Int32).toNatClampNeg y126) (fun σ126 => qix (13 : Int32) 14 (qcall (fX1_countOthers σ126 a1 (σ126.1 59 (13 : Int32).toNatClampNeg) a2 a3) (fun r144 σ144 => qix (12 : Int32) 14 (qlet (sI σ144 59 (12 : Int32).toNatClampNeg r144) (fun σ147 => some ((0 : Int32), σ147))))))))) (fun j126 => (if r115 = (0 : Int32) then (j126 (0 : Int32)) else (j126 (1 : Int32))))))))) else (qcall (fX0_isHeard σ v4 a1 a2 a3) (fun r53 σ53 => qlet (fun (y74 : St) => (qlet (v4 + (1 : Int32)) (fun x74 => fX1_askVars_L a1 a2 a3 n x74 y74))) (fun j74 => (if r53 = (0 : Int32) then (j74 σ53) else (qix v4 300 (qcall (fX1_countSeer σ53 (σ53.1 31 v4.toNatClampNeg) a2) (fun _ σ71 => j74 σ71)))))))
def fX1_askVars (σ : St) (a1 : Int32) (a2 : Int32) (a3 : Int32) : Option (Int32 × St) := qlet (sI σ 36 8 (0 : Int32)) (fun σ2 => qix (7 : Int32) 14 (qlet (sI σ2 59 (7 : Int32).toNatClampNeg (0 : Int32)) (fun σ12 => qix (8 : Int32) 14 (qlet (sI σ12 59 (8 : Int32).toNatClampNeg (0 : Int32)) (fun σ20 => qix (9 : Int32) 14 (qlet (sI σ20 59 (9 : Int32).toNatClampNeg (0 : Int32)) (fun σ28 => fX1_askVars_L a1 a2 a3 100000 (0 : Int32) σ28)))))))
set_option maxHeartbeats 4000000 in
set_option maxRecDepth 100000 in
theorem kX1_askVars_L {ad : Nat → Nat} {cy : Nat → ClassId} {X : va_W} {A : Nat → Prop} {D : va_G} {zs : Nat × Nat × Option Nat} {p : Program} {l : Launch} {e : Env} {s : State} {m : MethodId} {args : Array Value} {below : List Frame} {meth : Method} {c : Code} {a1 : Int32} {a2 : Int32} {a3 : Int32} (C : qC ceC 96 ad cy X A D zs cX1_askVars 5 RX1 wsX1_askVars p s m args meth c none) (r0 : Int32) (σ0 : St) (n : Nat) : (∀ (v4 : Int32) (σ : St), fX1_askVars_L a1 a2 a3 n v4 σ = some (r0, σ0) → qVv ceC 96 ad cy X A D p l e (headSpec wsX1_askVars rmX1_askVars).room s m args below meth c 5 r0 σ0 32 [(0, .ref (ad 36)), (1, .int a1), (2, .int a2), (3, .int a3), (4, .int v4)] [] σ) := by
  induction n with
  | zero =>
    intro v4 σ h; cases h
  | succ n ih =>
    intro v4 σ h
    rw [fX1_askVars_L] at h
    refine q_iload C dX1_askVars_32 4 rfl ?_
    refine q_aload_n C dX1_askVars_34 rfl 0 rfl ?_
    refine q_get C (Cn := RX1) (T := TX1) (Nf := 10) (ci := 1) (id := 36) (k := 1) (v := .ref (ad 21)) nX1_askVars_X1 (by decide) (ceC_36 ad cy _ _ _) rfl (by decide) rfl hX1_askVars_40 dX1_askVars_35 ?_
    refine q_get C (Cn := RX0) (T := TX0) (Nf := 9) (ci := 0) (id := 21) (k := 8) (v := .int (σ.1 21 8)) nX1_askVars_X0 (by decide) (ceC_21 ad cy _ _ _) rfl (by decide) rfl hX1_askVars_98 dX1_askVars_38 ?_
    refine q_icmp_ge C (tgt := 80) dX1_askVars_41 (by decide) h (fun h => ?_) (fun h => ?_)
    · refine q_aload_n C dX1_askVars_80 rfl 0 rfl ?_
      refine q_get C (Cn := RX1) (T := TX1) (Nf := 10) (ci := 1) (id := 36) (k := 7) (v := .ref (ad 59)) nX1_askVars_X1 (by decide) (ceC_36 ad cy _ _ _) rfl (by decide) rfl hX1_askVars_26 dX1_askVars_81 ?_
      refine q_bipush C (v := 10) dX1_askVars_84 (by decide) ?_
      refine q_aload_n C dX1_askVars_86 rfl 0 rfl ?_
      refine q_get C (Cn := RX1) (T := TX1) (Nf := 10) (ci := 1) (id := 36) (k := 0) (v := .ref (ad 2)) nX1_askVars_X1 (by decide) (ceC_36 ad cy _ _ _) rfl (by decide) rfl hX1_askVars_36 dX1_askVars_87 ?_
      refine q_iload_n C dX1_askVars_90 rfl 1 rfl ?_
      refine q_iload_n C dX1_askVars_91 rfl 3 rfl ?_
      refine q_callVi C (rm := rmX4_lightOn) (As := [.int a1, .int a3]) (rest := [.int (10 : Int32), .ref (ad 59)]) (id := 2) (ci := 4) (fun r9 σ9 h9 => kX4_lightOn l D ad cy X A zs σ a1 a3 r9 σ9 h9) gX1_askVars_X4_lightOn rfl rfl rfl hyX4_lightOn ⟨Nat.le_of_ble_eq_true rfl, Nat.le_of_ble_eq_true rfl⟩ (by decide) (ceC_2 ad cy _ _ _) rfl rfl rfl (Nat.le_of_ble_eq_true rfl) dX1_askVars_92 ⟨Nat.zero_le _, Nat.zero_le _⟩ h (fun r92 σ92 h => ?_)
      refine q_iast C (id := 59) (by decide) (fun f g => ceC_59 ad cy _ f g) dX1_askVars_95 h (fun σ95 h => ?_)
      refine q_aload_n C dX1_askVars_96 rfl 0 rfl ?_
      refine q_get C (Cn := RX1) (T := TX1) (Nf := 10) (ci := 1) (id := 36) (k := 7) (v := .ref (ad 59)) nX1_askVars_X1 (by decide) (ceC_36 ad cy _ _ _) rfl (by decide) rfl hX1_askVars_26 dX1_askVars_97 ?_
      refine q_bipush C (v := 11) dX1_askVars_100 (by decide) ?_
      refine q_aload_n C dX1_askVars_102 rfl 0 rfl ?_
      refine q_get C (Cn := RX1) (T := TX1) (Nf := 10) (ci := 1) (id := 36) (k := 1) (v := .ref (ad 21)) nX1_askVars_X1 (by decide) (ceC_36 ad cy _ _ _) rfl (by decide) rfl hX1_askVars_40 dX1_askVars_103 ?_
      refine q_iload_n C dX1_askVars_106 rfl 1 rfl ?_
      refine q_iload_n C dX1_askVars_107 rfl 3 rfl ?_
      refine q_aload_n C dX1_askVars_108 rfl 0 rfl ?_
      refine q_get C (Cn := RX1) (T := TX1) (Nf := 10) (ci := 1) (id := 36) (k := 1) (v := .ref (ad 21)) nX1_askVars_X1 (by decide) (ceC_36 ad cy _ _ _) rfl (by decide) rfl hX1_askVars_40 dX1_askVars_109 ?_
      refine q_get C (Cn := RX0) (T := TX0) (Nf := 9) (ci := 0) (id := 21) (k := 8) (v := .int (σ95.1 21 8)) nX1_askVars_X0 (by decide) (ceC_21 ad cy _ _ _) rfl (by decide) rfl hX1_askVars_98 dX1_askVars_112 ?_
      refine q_callVi C (rm := rmX0_isCloudy) (As := [.int a1, .int a3, .int (σ95.1 21 8)]) (rest := [.int (11 : Int32), .ref (ad 59)]) (id := 21) (ci := 0) (fun r9 σ9 h9 => kX0_isCloudy l D ad cy X A zs σ95 a1 a3 (σ95.1 21 8) r9 σ9 h9) gX1_askVars_X0_isCloudy rfl rfl rfl hyX0_isCloudy ⟨Nat.le_of_ble_eq_true rfl, Nat.le_of_ble_eq_true rfl⟩ (by decide) (ceC_21 ad cy _ _ _) rfl rfl rfl (Nat.le_of_ble_eq_true rfl) dX1_askVars_115 ⟨Nat.zero_le _, Nat.zero_le _⟩ h (fun r115 σ115 h => ?_)
      refine q_join (G := fun (y126 : Int32) => qVv ceC 96 ad cy X A D p l e (headSpec wsX1_askVars rmX1_askVars).room s m args below meth c 5 r0 σ0 126 [(0, .ref (ad 36)), (1, .int a1), (2, .int a2), (3, .int a3)] [.int y126, .int (11 : Int32), .ref (ad 59)] σ115) h (fun y126 h => ?_) (fun j126 hj126 h => ?_)
      · refine q_iast C (id := 59) (by decide) (fun f g => ceC_59 ad cy _ f g) dX1_askVars_126 h (fun σ126 h => ?_)
        refine q_aload_n C dX1_askVars_127 rfl 0 rfl ?_
        refine q_get C (Cn := RX1) (T := TX1) (Nf := 10) (ci := 1) (id := 36) (k := 7) (v := .ref (ad 59)) nX1_askVars_X1 (by decide) (ceC_36 ad cy _ _ _) rfl (by decide) rfl hX1_askVars_26 dX1_askVars_128 ?_
        refine q_bipush C (v := 12) dX1_askVars_131 (by decide) ?_
        refine q_aload_n C dX1_askVars_133 rfl 0 rfl ?_
        refine q_iload_n C dX1_askVars_134 rfl 1 rfl ?_
        refine q_aload_n C dX1_askVars_135 rfl 0 rfl ?_
        refine q_get C (Cn := RX1) (T := TX1) (Nf := 10) (ci := 1) (id := 36) (k := 7) (v := .ref (ad 59)) nX1_askVars_X1 (by decide) (ceC_36 ad cy _ _ _) rfl (by decide) rfl hX1_askVars_26 dX1_askVars_136 ?_
        refine q_bipush C (v := 13) dX1_askVars_139 (by decide) ?_
        refine q_iald C (id := 59) (by decide) (ceC_59 ad cy _ _ _) dX1_askVars_141 h (fun h => ?_)
        refine q_iload_n C dX1_askVars_142 rfl 2 rfl ?_
        refine q_iload_n C dX1_askVars_143 rfl 3 rfl ?_
        refine q_callVi C (rm := rmX1_countOthers) (As := [.int a1, .int (σ126.1 59 (13 : Int32).toNatClampNeg), .int a2, .int a3]) (rest := [.int (12 : Int32), .ref (ad 59)]) (id := 36) (ci := 1) (fun r9 σ9 h9 => kX1_countOthers l D ad cy X A zs σ126 a1 (σ126.1 59 (13 : Int32).toNatClampNeg) a2 a3 r9 σ9 h9) gX1_askVars_X1_countOthers rfl rfl rfl hyX1_countOthers ⟨Nat.le_of_ble_eq_true rfl, Nat.le_of_ble_eq_true rfl⟩ (by decide) (ceC_36 ad cy _ _ _) rfl rfl rfl (Nat.le_of_ble_eq_true rfl) dX1_askVars_144 ⟨Nat.zero_le _, Nat.zero_le _⟩ h (fun r144 σ144 h => ?_)
        refine q_iast C (id := 59) (by decide) (fun f g => ceC_59 ad cy _ f g) dX1_askVars_147 h (fun σ147 h => ?_)
        exact q_vret C (r0 := r0) rfl dX1_askVars_148 h
      refine q_if_eq C (tgt := 125) dX1_askVars_118 (by decide) h (fun h => ?_) (fun h => ?_)
      · refine q_iconst C (v := 0) dX1_askVars_125 (by decide) ?_
        exact q_sub [0, 1, 2, 3] rfl (hj126 (0 : Int32) h)
      · refine q_iconst C (v := 1) dX1_askVars_121 (by decide) ?_
        refine q_goto C (tgt := 126) dX1_askVars_122 (by decide) ?_
        exact q_sub [0, 1, 2, 3] rfl (hj126 (1 : Int32) h)
    · refine q_aload_n C dX1_askVars_44 rfl 0 rfl ?_
      refine q_get C (Cn := RX1) (T := TX1) (Nf := 10) (ci := 1) (id := 36) (k := 1) (v := .ref (ad 21)) nX1_askVars_X1 (by decide) (ceC_36 ad cy _ _ _) rfl (by decide) rfl hX1_askVars_40 dX1_askVars_45 ?_
      refine q_iload C dX1_askVars_48 4 rfl ?_
      refine q_iload_n C dX1_askVars_50 rfl 1 rfl ?_
      refine q_iload_n C dX1_askVars_51 rfl 2 rfl ?_
      refine q_iload_n C dX1_askVars_52 rfl 3 rfl ?_
      refine q_callVi C (rm := rmX0_isHeard) (As := [.int v4, .int a1, .int a2, .int a3]) (rest := []) (id := 21) (ci := 0) (fun r9 σ9 h9 => kX0_isHeard l D ad cy X A zs σ v4 a1 a2 a3 r9 σ9 h9) gX1_askVars_X0_isHeard rfl rfl rfl hyX0_isHeard ⟨Nat.le_of_ble_eq_true rfl, Nat.le_of_ble_eq_true rfl⟩ (by decide) (ceC_21 ad cy _ _ _) rfl rfl rfl (Nat.le_of_ble_eq_true rfl) dX1_askVars_53 ⟨Nat.zero_le _, Nat.zero_le _⟩ h (fun r53 σ53 h => ?_)
      refine q_join (G := fun (y74 : St) => qVv ceC 96 ad cy X A D p l e (headSpec wsX1_askVars rmX1_askVars).room s m args below meth c 5 r0 σ0 74 [(0, .ref (ad 36)), (1, .int a1), (2, .int a2), (3, .int a3), (4, .int v4)] [] y74) h (fun y74 h => ?_) (fun j74 hj74 h => ?_)
      · refine q_iincL C dX1_askVars_74 4 rfl (by decide) (nv := 1) (by decide) h (lw := fun x74 => [(0, .ref (ad 36)), (1, .int a1), (2, .int a2), (3, .int a3), (4, .int x74)]) (fun _ => rfl) (fun x74 h => ?_)
        refine q_goto C (tgt := 32) dX1_askVars_77 (by decide) ?_
        exact q_sub [0, 1, 2, 3, 4] rfl (ih x74 y74 h)
      refine q_if_eq C (tgt := 74) dX1_askVars_56 (by decide) h (fun h => ?_) (fun h => ?_)
      · exact q_sub [0, 1, 2, 3, 4] rfl (hj74 σ53 h)
      · refine q_aload_n C dX1_askVars_59 rfl 0 rfl ?_
        refine q_aload_n C dX1_askVars_60 rfl 0 rfl ?_
        refine q_get C (Cn := RX1) (T := TX1) (Nf := 10) (ci := 1) (id := 36) (k := 1) (v := .ref (ad 21)) nX1_askVars_X1 (by decide) (ceC_36 ad cy _ _ _) rfl (by decide) rfl hX1_askVars_40 dX1_askVars_61 ?_
        refine q_get C (Cn := RX0) (T := TX0) (Nf := 9) (ci := 0) (id := 21) (k := 4) (v := .ref (ad 31)) nX1_askVars_X0 (by decide) (ceC_21 ad cy _ _ _) rfl (by decide) rfl hX1_askVars_105 dX1_askVars_64 ?_
        refine q_iload C dX1_askVars_67 4 rfl ?_
        refine q_iald C (id := 31) (by decide) (ceC_31 ad cy _ _ _) dX1_askVars_69 h (fun h => ?_)
        refine q_iload_n C dX1_askVars_70 rfl 2 rfl ?_
        refine q_callVv C (rm := rmX1_countSeer) (As := [.int (σ53.1 31 v4.toNatClampNeg), .int a2]) (rest := []) (id := 36) (ci := 1) (fun r9 σ9 h9 => kX1_countSeer l D ad cy X A zs σ53 (σ53.1 31 v4.toNatClampNeg) a2 r9 σ9 h9) gX1_askVars_X1_countSeer rfl rfl rfl hyX1_countSeer ⟨Nat.le_of_ble_eq_true rfl, Nat.le_of_ble_eq_true rfl⟩ (by decide) (ceC_36 ad cy _ _ _) rfl rfl rfl (Nat.le_of_ble_eq_true rfl) dX1_askVars_71 ⟨Nat.zero_le _, Nat.zero_le _⟩ h (fun r71 σ71 h => ?_)
        exact q_sub [0, 1, 2, 3, 4] rfl (hj74 σ71 h)
set_option maxHeartbeats 4000000 in
set_option maxRecDepth 100000 in
theorem kX1_askVars (l : Launch) (D : va_G) (ad : Nat → Nat) (cy : Nat → ClassId) (X : va_W) (A : Nat → Prop) (zs : Nat × Nat × Option Nat) (σ : St) (a1 : Int32) (a2 : Int32) (a3 : Int32) (r0 : Int32) (σ0 : St) (h : fX1_askVars σ a1 a2 a3 = some (r0, σ0)) : Met l yX1_askVars wsX1_askVars rmX1_askVars (qPc ceC 96 ad cy X A D zs [.ref (ad 36), .int a1, .int a2, .int a3] σ) (qQv ceC 96 ad cy X A D σ0) 0 0 A := by
  refine Met.ofW (cc := cX1_askVars) (maxL := 5) (ret := none) (by decide) rfl ?_
  intro p e s m args below meth c s₁ B hml hv
  obtain ⟨ha, hP, hK, hE, hD⟩ := hv
  have C : qC ceC 96 ad cy X A D zs cX1_askVars 5 RX1 wsX1_askVars p s m args meth c none := ⟨B.exec, B.bytes, hml, findClass_of_methodNamed B.named, atoms_spec (ws := wsX1_askVars) B.pre, hK, hD, B.returns, B.notSynchronized, hE⟩
  rw [show entryFrame m args 5 = entryFrame m ([.ref (ad 36), .int a1, .int a2, .int a3] : List Value).toArray 5 by rw [ha]]
  refine q_entry (A := A) (Nat.le_of_ble_eq_true rfl) hP (lv := [(0, .ref (ad 36)), (1, .int a1), (2, .int a2), (3, .int a3)]) rfl ?_
  unfold fX1_askVars at h
  refine q_aload_n C dX1_askVars_0 rfl 0 rfl ?_
  refine q_iconst C (v := 0) dX1_askVars_1 (by decide) ?_
  refine q_put C (Cn := RX1) (T := TX1) (ty0 := tyX1) (Nf := 10) (ci := 1) (id := 36) (k := 8) (y := 0) tyX1_ok nmX1 nX1_askVars_X1 (by decide) (ceC_36 ad cy _ _ _) (ceC_36 ad cy _ _ _) rfl (by decide) rfl (by decide +kernel) (Nat.le_of_ble_eq_true rfl) hX1_askVars_29 dX1_askVars_2 h (fun σ2 h => ?_)
  refine q_aload_n C dX1_askVars_5 rfl 0 rfl ?_
  refine q_get C (Cn := RX1) (T := TX1) (Nf := 10) (ci := 1) (id := 36) (k := 7) (v := .ref (ad 59)) nX1_askVars_X1 (by decide) (ceC_36 ad cy _ _ _) rfl (by decide) rfl hX1_askVars_26 dX1_askVars_6 ?_
  refine q_bipush C (v := 7) dX1_askVars_9 (by decide) ?_
  refine q_iconst C (v := 0) dX1_askVars_11 (by decide) ?_
  refine q_iast C (id := 59) (by decide) (fun f g => ceC_59 ad cy _ f g) dX1_askVars_12 h (fun σ12 h => ?_)
  refine q_aload_n C dX1_askVars_13 rfl 0 rfl ?_
  refine q_get C (Cn := RX1) (T := TX1) (Nf := 10) (ci := 1) (id := 36) (k := 7) (v := .ref (ad 59)) nX1_askVars_X1 (by decide) (ceC_36 ad cy _ _ _) rfl (by decide) rfl hX1_askVars_26 dX1_askVars_14 ?_
  refine q_bipush C (v := 8) dX1_askVars_17 (by decide) ?_
  refine q_iconst C (v := 0) dX1_askVars_19 (by decide) ?_
  refine q_iast C (id := 59) (by decide) (fun f g => ceC_59 ad cy _ f g) dX1_askVars_20 h (fun σ20 h => ?_)
  refine q_aload_n C dX1_askVars_21 rfl 0 rfl ?_
  refine q_get C (Cn := RX1) (T := TX1) (Nf := 10) (ci := 1) (id := 36) (k := 7) (v := .ref (ad 59)) nX1_askVars_X1 (by decide) (ceC_36 ad cy _ _ _) rfl (by decide) rfl hX1_askVars_26 dX1_askVars_22 ?_
  refine q_bipush C (v := 9) dX1_askVars_25 (by decide) ?_
  refine q_iconst C (v := 0) dX1_askVars_27 (by decide) ?_
  refine q_iast C (id := 59) (by decide) (fun f g => ceC_59 ad cy _ f g) dX1_askVars_28 h (fun σ28 h => ?_)
  refine q_iconst C (v := 0) dX1_askVars_29 (by decide) ?_
  refine q_istore C dX1_askVars_30 (by decide) (lv' := [(0, .ref (ad 36)), (1, .int a1), (2, .int a2), (3, .int a3), (4, .int (0 : Int32))]) rfl ?_
  exact q_sub [0, 1, 2, 3, 4] rfl ((kX1_askVars_L C r0 σ0 100000) (0 : Int32) σ28 h)
abbrev rmX1_tryToBegin : Room := { frames := 3, cells := 0, slots := 0, locals := 75 }
theorem hyX1_tryToBegin : yX1_tryToBegin.cls = RX1 ∧ yX1_tryToBegin.cls ≠ "java/lang/invoke/MethodHandle" ∧ yX1_tryToBegin.cls ≠ "java/lang/invoke/VarHandle" ∧ (parseMethodDescriptor yX1_tryToBegin.desc).map (fun d => d.parameters.length) = some 2 := by decide +kernel
theorem nX1_tryToBegin_X1 : ∀ w ∈ u_ws RX1 TX1 10, w ∈ wsX1_tryToBegin := fun w h => List.mem_cons_of_mem _ (List.mem_append_left _ (List.mem_append_left _ (List.mem_append_left _ (List.mem_append_right _ h))))
theorem hX1_tryToBegin_44 : Cond.fieldLink RX1 44 (TX1 2).1 (TX1 2).2.1 (TX1 2).2.2.1 ∈ wsX1_tryToBegin := by decide +kernel
theorem hX1_tryToBegin_26 : Cond.fieldLink RX1 26 (TX1 7).1 (TX1 7).2.1 (TX1 7).2.2.1 ∈ wsX1_tryToBegin := by decide +kernel
theorem hX1_tryToBegin_22 : Cond.fieldLink RX1 22 (TX1 6).1 (TX1 6).2.1 (TX1 6).2.2.1 ∈ wsX1_tryToBegin := by decide +kernel
def fX1_tryToBegin (σ : St) (a1 : Int32) (a2 : Int32) : Option (Int32 × St) := qix a1 6 (qlet (σ.2.2 a1.toNatClampNeg) (fun t5 => qtx t5 (qcall (fX3_hasRule σ t5 (0 : Int32)) (fun r9 σ9 => if r9 = (0 : Int32) then (some ((0 : Int32), σ9)) else (qix (6 : Int32) 14 (qlet (sI σ9 59 (6 : Int32).toNatClampNeg (29 : Int32)) (fun σ24 => qix a1 6 (qix (13 : Int32) 14 (qlet (sI σ24 59 (13 : Int32).toNatClampNeg ((σ24.1 58 a1.toNatClampNeg) + (1 : Int32))) (fun σ39 => qcall (fX1_askVars σ39 a1 a2 a2) (fun _ σ44 => qcall (fX3_firstThatHolds σ44 t5 (1 : Int32)) (fun r53 σ53 => if r53 = (-1 : Int32) then (qcall (fX3_firstThatHolds σ53 t5 (0 : Int32)) (fun r67 σ67 => qlet (fun (y86 : St) => (some ((0 : Int32), y86))) (fun j86 => (if r67 = (-1 : Int32) then (j86 σ67) else (qcall (fX1_beginMonth σ67 a1 a2 r67) (fun _ σ83 => j86 σ83)))))) else (some ((0 : Int32), σ53))))))))))))))
set_option maxHeartbeats 4000000 in
set_option maxRecDepth 100000 in
theorem kX1_tryToBegin (l : Launch) (D : va_G) (ad : Nat → Nat) (cy : Nat → ClassId) (X : va_W) (A : Nat → Prop) (zs : Nat × Nat × Option Nat) (σ : St) (a1 : Int32) (a2 : Int32) (r0 : Int32) (σ0 : St) (h : fX1_tryToBegin σ a1 a2 = some (r0, σ0)) : Met l yX1_tryToBegin wsX1_tryToBegin rmX1_tryToBegin (qPc ceC 96 ad cy X A D zs [.ref (ad 36), .int a1, .int a2] σ) (qQv ceC 96 ad cy X A D σ0) 0 0 A := by
  refine Met.ofW (cc := cX1_tryToBegin) (maxL := 5) (ret := none) (by decide) rfl ?_
  intro p e s m args below meth c s₁ B hml hv
  obtain ⟨ha, hP, hK, hE, hD⟩ := hv
  have C : qC ceC 96 ad cy X A D zs cX1_tryToBegin 5 RX1 wsX1_tryToBegin p s m args meth c none := ⟨B.exec, B.bytes, hml, findClass_of_methodNamed B.named, atoms_spec (ws := wsX1_tryToBegin) B.pre, hK, hD, B.returns, B.notSynchronized, hE⟩
  rw [show entryFrame m args 5 = entryFrame m ([.ref (ad 36), .int a1, .int a2] : List Value).toArray 5 by rw [ha]]
  refine q_entry (A := A) (Nat.le_of_ble_eq_true rfl) hP (lv := [(0, .ref (ad 36)), (1, .int a1), (2, .int a2)]) rfl ?_
  unfold fX1_tryToBegin at h
  refine q_aload_n C dX1_tryToBegin_0 rfl 0 rfl ?_
  refine q_get C (Cn := RX1) (T := TX1) (Nf := 10) (ci := 1) (id := 36) (k := 2) (v := .ref (ad 33)) nX1_tryToBegin_X1 (by decide) (ceC_36 ad cy _ _ _) rfl (by decide) rfl hX1_tryToBegin_44 dX1_tryToBegin_1 ?_
  refine q_iload_n C dX1_tryToBegin_4 rfl 1 rfl ?_
  refine q_aaldT C dX1_tryToBegin_5 h (fun t5 ht5 h => ?_)
  refine q_astore_n C dX1_tryToBegin_6 rfl (by decide) (lv' := [(0, .ref (ad 36)), (1, .int a1), (2, .int a2), (3, .ref (ad (61 + 5 * t5)))]) rfl ?_
  refine q_aload_n C dX1_tryToBegin_7 rfl 3 rfl ?_
  refine q_iconst C (v := 0) dX1_tryToBegin_8 (by decide) ?_
  refine q_callVi C (rm := rmX3_hasRule) (As := [.int (0 : Int32)]) (rest := []) (id := (61 + 5 * t5)) (ci := 3) (fun r9 σ9 h9 => kX3_hasRule l D ad cy X A zs σ t5 (0 : Int32) ht5 r9 σ9 h9) gX1_tryToBegin_X3_hasRule rfl rfl rfl hyX3_hasRule ⟨Nat.le_of_ble_eq_true rfl, Nat.le_of_ble_eq_true rfl⟩ (by omega) (ceC_t0 ad cy _ _ _ t5) rfl rfl rfl (Nat.le_of_ble_eq_true rfl) dX1_tryToBegin_9 ⟨Nat.zero_le _, Nat.zero_le _⟩ h (fun r9 σ9 h => ?_)
  refine q_if_ne C (tgt := 16) dX1_tryToBegin_12 (by decide) h (fun h => ?_) (fun h => ?_)
  · refine q_aload_n C dX1_tryToBegin_16 rfl 0 rfl ?_
    refine q_get C (Cn := RX1) (T := TX1) (Nf := 10) (ci := 1) (id := 36) (k := 7) (v := .ref (ad 59)) nX1_tryToBegin_X1 (by decide) (ceC_36 ad cy _ _ _) rfl (by decide) rfl hX1_tryToBegin_26 dX1_tryToBegin_17 ?_
    refine q_bipush C (v := 6) dX1_tryToBegin_20 (by decide) ?_
    refine q_bipush C (v := 29) dX1_tryToBegin_22 (by decide) ?_
    refine q_iast C (id := 59) (by decide) (fun f g => ceC_59 ad cy _ f g) dX1_tryToBegin_24 h (fun σ24 h => ?_)
    refine q_aload_n C dX1_tryToBegin_25 rfl 0 rfl ?_
    refine q_get C (Cn := RX1) (T := TX1) (Nf := 10) (ci := 1) (id := 36) (k := 7) (v := .ref (ad 59)) nX1_tryToBegin_X1 (by decide) (ceC_36 ad cy _ _ _) rfl (by decide) rfl hX1_tryToBegin_26 dX1_tryToBegin_26 ?_
    refine q_bipush C (v := 13) dX1_tryToBegin_29 (by decide) ?_
    refine q_aload_n C dX1_tryToBegin_31 rfl 0 rfl ?_
    refine q_get C (Cn := RX1) (T := TX1) (Nf := 10) (ci := 1) (id := 36) (k := 6) (v := .ref (ad 58)) nX1_tryToBegin_X1 (by decide) (ceC_36 ad cy _ _ _) rfl (by decide) rfl hX1_tryToBegin_22 dX1_tryToBegin_32 ?_
    refine q_iload_n C dX1_tryToBegin_35 rfl 1 rfl ?_
    refine q_iald C (id := 58) (by decide) (ceC_58 ad cy _ _ _) dX1_tryToBegin_36 h (fun h => ?_)
    refine q_iconst C (v := 1) dX1_tryToBegin_37 (by decide) ?_
    refine q_iadd C dX1_tryToBegin_38 ?_
    refine q_iast C (id := 59) (by decide) (fun f g => ceC_59 ad cy _ f g) dX1_tryToBegin_39 h (fun σ39 h => ?_)
    refine q_aload_n C dX1_tryToBegin_40 rfl 0 rfl ?_
    refine q_iload_n C dX1_tryToBegin_41 rfl 1 rfl ?_
    refine q_iload_n C dX1_tryToBegin_42 rfl 2 rfl ?_
    refine q_iload_n C dX1_tryToBegin_43 rfl 2 rfl ?_
    refine q_callVv C (rm := rmX1_askVars) (As := [.int a1, .int a2, .int a2]) (rest := []) (id := 36) (ci := 1) (fun r9 σ9 h9 => kX1_askVars l D ad cy X A zs σ39 a1 a2 a2 r9 σ9 h9) gX1_tryToBegin_X1_askVars rfl rfl rfl hyX1_askVars ⟨Nat.le_of_ble_eq_true rfl, Nat.le_of_ble_eq_true rfl⟩ (by decide) (ceC_36 ad cy _ _ _) rfl rfl rfl (Nat.le_of_ble_eq_true rfl) dX1_tryToBegin_44 ⟨Nat.zero_le _, Nat.zero_le _⟩ h (fun r44 σ44 h => ?_)
    refine q_aload_n C dX1_tryToBegin_47 rfl 3 rfl ?_
    refine q_iconst C (v := 1) dX1_tryToBegin_48 (by decide) ?_
    refine q_aload_n C dX1_tryToBegin_49 rfl 0 rfl ?_
    refine q_get C (Cn := RX1) (T := TX1) (Nf := 10) (ci := 1) (id := 36) (k := 7) (v := .ref (ad 59)) nX1_tryToBegin_X1 (by decide) (ceC_36 ad cy _ _ _) rfl (by decide) rfl hX1_tryToBegin_26 dX1_tryToBegin_50 ?_
    refine q_callVi C (rm := rmX3_firstThatHolds) (As := [.int (1 : Int32), .ref (ad 59)]) (rest := []) (id := (61 + 5 * t5)) (ci := 3) (fun r9 σ9 h9 => kX3_firstThatHolds l D ad cy X A zs σ44 t5 (1 : Int32) ht5 r9 σ9 h9) gX1_tryToBegin_X3_firstThatHolds rfl rfl rfl hyX3_firstThatHolds ⟨Nat.le_of_ble_eq_true rfl, Nat.le_of_ble_eq_true rfl⟩ (by omega) (ceC_t0 ad cy _ _ _ t5) rfl rfl rfl (Nat.le_of_ble_eq_true rfl) dX1_tryToBegin_53 ⟨Nat.zero_le _, Nat.zero_le _⟩ h (fun r53 σ53 h => ?_)
    refine q_iconst C (v := -1) dX1_tryToBegin_56 (by decide) ?_
    refine q_icmp_eq C (tgt := 61) dX1_tryToBegin_57 (by decide) h (fun h => ?_) (fun h => ?_)
    · refine q_aload_n C dX1_tryToBegin_61 rfl 3 rfl ?_
      refine q_iconst C (v := 0) dX1_tryToBegin_62 (by decide) ?_
      refine q_aload_n C dX1_tryToBegin_63 rfl 0 rfl ?_
      refine q_get C (Cn := RX1) (T := TX1) (Nf := 10) (ci := 1) (id := 36) (k := 7) (v := .ref (ad 59)) nX1_tryToBegin_X1 (by decide) (ceC_36 ad cy _ _ _) rfl (by decide) rfl hX1_tryToBegin_26 dX1_tryToBegin_64 ?_
      refine q_callVi C (rm := rmX3_firstThatHolds) (As := [.int (0 : Int32), .ref (ad 59)]) (rest := []) (id := (61 + 5 * t5)) (ci := 3) (fun r9 σ9 h9 => kX3_firstThatHolds l D ad cy X A zs σ53 t5 (0 : Int32) ht5 r9 σ9 h9) gX1_tryToBegin_X3_firstThatHolds rfl rfl rfl hyX3_firstThatHolds ⟨Nat.le_of_ble_eq_true rfl, Nat.le_of_ble_eq_true rfl⟩ (by omega) (ceC_t0 ad cy _ _ _ t5) rfl rfl rfl (Nat.le_of_ble_eq_true rfl) dX1_tryToBegin_67 ⟨Nat.zero_le _, Nat.zero_le _⟩ h (fun r67 σ67 h => ?_)
      refine q_istore C dX1_tryToBegin_70 (by decide) (lv' := [(0, .ref (ad 36)), (1, .int a1), (2, .int a2), (3, .ref (ad (61 + 5 * t5))), (4, .int r67)]) rfl ?_
      refine q_iload C dX1_tryToBegin_72 4 rfl ?_
      refine q_iconst C (v := -1) dX1_tryToBegin_74 (by decide) ?_
      refine q_join (G := fun (y86 : St) => qVv ceC 96 ad cy X A D p l e (headSpec wsX1_tryToBegin rmX1_tryToBegin).room s m args below meth c 5 r0 σ0 86 [] [] y86) h (fun y86 h => ?_) (fun j86 hj86 h => ?_)
      · exact q_vret C (r0 := r0) rfl dX1_tryToBegin_86 h
      refine q_icmp_eq C (tgt := 86) dX1_tryToBegin_75 (by decide) h (fun h => ?_) (fun h => ?_)
      · exact q_sub [] rfl (hj86 σ67 h)
      · refine q_aload_n C dX1_tryToBegin_78 rfl 0 rfl ?_
        refine q_iload_n C dX1_tryToBegin_79 rfl 1 rfl ?_
        refine q_iload_n C dX1_tryToBegin_80 rfl 2 rfl ?_
        refine q_iload C dX1_tryToBegin_81 4 rfl ?_
        refine q_callVv C (rm := rmX1_beginMonth) (As := [.int a1, .int a2, .int r67]) (rest := []) (id := 36) (ci := 1) (fun r9 σ9 h9 => kX1_beginMonth l D ad cy X A zs σ67 a1 a2 r67 r9 σ9 h9) gX1_tryToBegin_X1_beginMonth rfl rfl rfl hyX1_beginMonth ⟨Nat.le_of_ble_eq_true rfl, Nat.le_of_ble_eq_true rfl⟩ (by decide) (ceC_36 ad cy _ _ _) rfl rfl rfl (Nat.le_of_ble_eq_true rfl) dX1_tryToBegin_83 ⟨Nat.zero_le _, Nat.zero_le _⟩ h (fun r83 σ83 h => ?_)
        exact q_sub [] rfl (hj86 σ83 h)
    · exact q_vret C (r0 := r0) rfl dX1_tryToBegin_60 h
  · exact q_vret C (r0 := r0) rfl dX1_tryToBegin_15 h
abbrev rmX1_tryToSetBack : Room := { frames := 3, cells := 0, slots := 0, locals := 75 }
theorem hyX1_tryToSetBack : yX1_tryToSetBack.cls = RX1 ∧ yX1_tryToSetBack.cls ≠ "java/lang/invoke/MethodHandle" ∧ yX1_tryToSetBack.cls ≠ "java/lang/invoke/VarHandle" ∧ (parseMethodDescriptor yX1_tryToSetBack.desc).map (fun d => d.parameters.length) = some 3 := by decide +kernel
theorem nX1_tryToSetBack_X1 : ∀ w ∈ u_ws RX1 TX1 10, w ∈ wsX1_tryToSetBack := fun w h => List.mem_cons_of_mem _ (List.mem_append_left _ (List.mem_append_left _ (List.mem_append_left _ (List.mem_append_right _ h))))
theorem hX1_tryToSetBack_44 : Cond.fieldLink RX1 44 (TX1 2).1 (TX1 2).2.1 (TX1 2).2.2.1 ∈ wsX1_tryToSetBack := by decide +kernel
theorem hX1_tryToSetBack_22 : Cond.fieldLink RX1 22 (TX1 6).1 (TX1 6).2.1 (TX1 6).2.2.1 ∈ wsX1_tryToSetBack := by decide +kernel
theorem hX1_tryToSetBack_11 : Cond.fieldLink RX1 11 (TX1 3).1 (TX1 3).2.1 (TX1 3).2.2.1 ∈ wsX1_tryToSetBack := by decide +kernel
theorem hX1_tryToSetBack_26 : Cond.fieldLink RX1 26 (TX1 7).1 (TX1 7).2.1 (TX1 7).2.2.1 ∈ wsX1_tryToSetBack := by decide +kernel
theorem hX1_tryToSetBack_16 : Cond.fieldLink RX1 16 (TX1 4).1 (TX1 4).2.1 (TX1 4).2.2.1 ∈ wsX1_tryToSetBack := by decide +kernel
theorem hX1_tryToSetBack_19 : Cond.fieldLink RX1 19 (TX1 5).1 (TX1 5).2.1 (TX1 5).2.2.1 ∈ wsX1_tryToSetBack := by decide +kernel
def fX1_tryToSetBack (σ : St) (a1 : Int32) (a2 : Int32) (a3 : Int32) : Option (Int32 × St) := qix a1 6 (qlet (σ.2.2 a1.toNatClampNeg) (fun t5 => qtx t5 (qcall (fX3_hasRule σ t5 (2 : Int32)) (fun r11 σ11 => if r11 = (0 : Int32) then (some ((0 : Int32), σ11)) else (qix a1 6 (qlet (σ11.1 58 a1.toNatClampNeg) (fun x24 => qix a1 6 (qix x24 15 (qlet ((σ11.1 (38 + a1.toNatClampNeg) x24.toNatClampNeg) - (1 : Int32)) (fun x37 => qix (6 : Int32) 14 (qlet (sI σ11 59 (6 : Int32).toNatClampNeg a3) (fun σ46 => qix (13 : Int32) 14 (qlet (sI σ46 59 (13 : Int32).toNatClampNeg x24) (fun σ55 => qcall (fX1_askVars σ55 a1 a2 x37) (fun _ σ61 => qcall (fX3_firstThatHolds σ61 t5 (2 : Int32)) (fun r71 σ71 => qlet (fun (y114 : St) => (some ((0 : Int32), y114))) (fun j114 => (if r71 = (-1 : Int32) then (j114 σ71) else (qix a1 6 (qix x24 15 (qlet (sI σ71 (38 + a1.toNatClampNeg) x24.toNatClampNeg x37) (fun σ92 => qix a1 6 (qix x24 15 (qlet (sI σ92 (45 + a1.toNatClampNeg) x24.toNatClampNeg r71) (fun σ103 => qix a1 6 (qix x24 15 (qlet (sI σ103 (52 + a1.toNatClampNeg) x24.toNatClampNeg a2) (fun σ113 => j114 σ113))))))))))))))))))))))))))))
set_option maxHeartbeats 4000000 in
set_option maxRecDepth 100000 in
theorem kX1_tryToSetBack (l : Launch) (D : va_G) (ad : Nat → Nat) (cy : Nat → ClassId) (X : va_W) (A : Nat → Prop) (zs : Nat × Nat × Option Nat) (σ : St) (a1 : Int32) (a2 : Int32) (a3 : Int32) (r0 : Int32) (σ0 : St) (h : fX1_tryToSetBack σ a1 a2 a3 = some (r0, σ0)) : Met l yX1_tryToSetBack wsX1_tryToSetBack rmX1_tryToSetBack (qPc ceC 96 ad cy X A D zs [.ref (ad 36), .int a1, .int a2, .int a3] σ) (qQv ceC 96 ad cy X A D σ0) 0 0 A := by
  refine Met.ofW (cc := cX1_tryToSetBack) (maxL := 8) (ret := none) (by decide) rfl ?_
  intro p e s m args below meth c s₁ B hml hv
  obtain ⟨ha, hP, hK, hE, hD⟩ := hv
  have C : qC ceC 96 ad cy X A D zs cX1_tryToSetBack 8 RX1 wsX1_tryToSetBack p s m args meth c none := ⟨B.exec, B.bytes, hml, findClass_of_methodNamed B.named, atoms_spec (ws := wsX1_tryToSetBack) B.pre, hK, hD, B.returns, B.notSynchronized, hE⟩
  rw [show entryFrame m args 8 = entryFrame m ([.ref (ad 36), .int a1, .int a2, .int a3] : List Value).toArray 8 by rw [ha]]
  refine q_entry (A := A) (Nat.le_of_ble_eq_true rfl) hP (lv := [(0, .ref (ad 36)), (1, .int a1), (2, .int a2), (3, .int a3)]) rfl ?_
  unfold fX1_tryToSetBack at h
  refine q_aload_n C dX1_tryToSetBack_0 rfl 0 rfl ?_
  refine q_get C (Cn := RX1) (T := TX1) (Nf := 10) (ci := 1) (id := 36) (k := 2) (v := .ref (ad 33)) nX1_tryToSetBack_X1 (by decide) (ceC_36 ad cy _ _ _) rfl (by decide) rfl hX1_tryToSetBack_44 dX1_tryToSetBack_1 ?_
  refine q_iload_n C dX1_tryToSetBack_4 rfl 1 rfl ?_
  refine q_aaldT C dX1_tryToSetBack_5 h (fun t5 ht5 h => ?_)
  refine q_astore C dX1_tryToSetBack_6 (by decide) (lv' := [(0, .ref (ad 36)), (1, .int a1), (2, .int a2), (3, .int a3), (4, .ref (ad (61 + 5 * t5)))]) rfl ?_
  refine q_aload C dX1_tryToSetBack_8 4 rfl ?_
  refine q_iconst C (v := 2) dX1_tryToSetBack_10 (by decide) ?_
  refine q_callVi C (rm := rmX3_hasRule) (As := [.int (2 : Int32)]) (rest := []) (id := (61 + 5 * t5)) (ci := 3) (fun r9 σ9 h9 => kX3_hasRule l D ad cy X A zs σ t5 (2 : Int32) ht5 r9 σ9 h9) gX1_tryToSetBack_X3_hasRule rfl rfl rfl hyX3_hasRule ⟨Nat.le_of_ble_eq_true rfl, Nat.le_of_ble_eq_true rfl⟩ (by omega) (ceC_t0 ad cy _ _ _ t5) rfl rfl rfl (Nat.le_of_ble_eq_true rfl) dX1_tryToSetBack_11 ⟨Nat.zero_le _, Nat.zero_le _⟩ h (fun r11 σ11 h => ?_)
  refine q_if_ne C (tgt := 18) dX1_tryToSetBack_14 (by decide) h (fun h => ?_) (fun h => ?_)
  · refine q_aload_n C dX1_tryToSetBack_18 rfl 0 rfl ?_
    refine q_get C (Cn := RX1) (T := TX1) (Nf := 10) (ci := 1) (id := 36) (k := 6) (v := .ref (ad 58)) nX1_tryToSetBack_X1 (by decide) (ceC_36 ad cy _ _ _) rfl (by decide) rfl hX1_tryToSetBack_22 dX1_tryToSetBack_19 ?_
    refine q_iload_n C dX1_tryToSetBack_22 rfl 1 rfl ?_
    refine q_iald C (id := 58) (by decide) (ceC_58 ad cy _ _ _) dX1_tryToSetBack_23 h (fun h => ?_)
    refine q_istoreL C dX1_tryToSetBack_24 (by decide) h (lw := fun x24 => [(0, .ref (ad 36)), (1, .int a1), (2, .int a2), (3, .int a3), (4, .ref (ad (61 + 5 * t5))), (5, .int x24)]) (fun _ => rfl) (fun x24 h => ?_)
    refine q_aload_n C dX1_tryToSetBack_26 rfl 0 rfl ?_
    refine q_get C (Cn := RX1) (T := TX1) (Nf := 10) (ci := 1) (id := 36) (k := 3) (v := .ref (ad 37)) nX1_tryToSetBack_X1 (by decide) (ceC_36 ad cy _ _ _) rfl (by decide) rfl hX1_tryToSetBack_11 dX1_tryToSetBack_27 ?_
    refine q_iload_n C dX1_tryToSetBack_30 rfl 1 rfl ?_
    refine q_aald C (id := 37) (t0 := 6) (by decide) (ceC_37 ad cy _ _ _) rfl rfl dX1_tryToSetBack_31 h (fun _ => rfl) (fun hr31 h => ?_)
    refine q_iload C dX1_tryToSetBack_32 5 rfl ?_
    refine q_iald C (id := (38 + a1.toNatClampNeg)) (by omega) (ceC_r38 ad cy _ _ _ hr31) dX1_tryToSetBack_34 h (fun h => ?_)
    refine q_iconst C (v := 1) dX1_tryToSetBack_35 (by decide) ?_
    refine q_isub C dX1_tryToSetBack_36 ?_
    refine q_istoreL C dX1_tryToSetBack_37 (by decide) h (lw := fun x37 => [(0, .ref (ad 36)), (1, .int a1), (2, .int a2), (3, .int a3), (4, .ref (ad (61 + 5 * t5))), (5, .int x24), (6, .int x37)]) (fun _ => rfl) (fun x37 h => ?_)
    refine q_aload_n C dX1_tryToSetBack_39 rfl 0 rfl ?_
    refine q_get C (Cn := RX1) (T := TX1) (Nf := 10) (ci := 1) (id := 36) (k := 7) (v := .ref (ad 59)) nX1_tryToSetBack_X1 (by decide) (ceC_36 ad cy _ _ _) rfl (by decide) rfl hX1_tryToSetBack_26 dX1_tryToSetBack_40 ?_
    refine q_bipush C (v := 6) dX1_tryToSetBack_43 (by decide) ?_
    refine q_iload_n C dX1_tryToSetBack_45 rfl 3 rfl ?_
    refine q_iast C (id := 59) (by decide) (fun f g => ceC_59 ad cy _ f g) dX1_tryToSetBack_46 h (fun σ46 h => ?_)
    refine q_aload_n C dX1_tryToSetBack_47 rfl 0 rfl ?_
    refine q_get C (Cn := RX1) (T := TX1) (Nf := 10) (ci := 1) (id := 36) (k := 7) (v := .ref (ad 59)) nX1_tryToSetBack_X1 (by decide) (ceC_36 ad cy _ _ _) rfl (by decide) rfl hX1_tryToSetBack_26 dX1_tryToSetBack_48 ?_
    refine q_bipush C (v := 13) dX1_tryToSetBack_51 (by decide) ?_
    refine q_iload C dX1_tryToSetBack_53 5 rfl ?_
    refine q_iast C (id := 59) (by decide) (fun f g => ceC_59 ad cy _ f g) dX1_tryToSetBack_55 h (fun σ55 h => ?_)
    refine q_aload_n C dX1_tryToSetBack_56 rfl 0 rfl ?_
    refine q_iload_n C dX1_tryToSetBack_57 rfl 1 rfl ?_
    refine q_iload_n C dX1_tryToSetBack_58 rfl 2 rfl ?_
    refine q_iload C dX1_tryToSetBack_59 6 rfl ?_
    refine q_callVv C (rm := rmX1_askVars) (As := [.int a1, .int a2, .int x37]) (rest := []) (id := 36) (ci := 1) (fun r9 σ9 h9 => kX1_askVars l D ad cy X A zs σ55 a1 a2 x37 r9 σ9 h9) gX1_tryToSetBack_X1_askVars rfl rfl rfl hyX1_askVars ⟨Nat.le_of_ble_eq_true rfl, Nat.le_of_ble_eq_true rfl⟩ (by decide) (ceC_36 ad cy _ _ _) rfl rfl rfl (Nat.le_of_ble_eq_true rfl) dX1_tryToSetBack_61 ⟨Nat.zero_le _, Nat.zero_le _⟩ h (fun r61 σ61 h => ?_)
    refine q_aload C dX1_tryToSetBack_64 4 rfl ?_
    refine q_iconst C (v := 2) dX1_tryToSetBack_66 (by decide) ?_
    refine q_aload_n C dX1_tryToSetBack_67 rfl 0 rfl ?_
    refine q_get C (Cn := RX1) (T := TX1) (Nf := 10) (ci := 1) (id := 36) (k := 7) (v := .ref (ad 59)) nX1_tryToSetBack_X1 (by decide) (ceC_36 ad cy _ _ _) rfl (by decide) rfl hX1_tryToSetBack_26 dX1_tryToSetBack_68 ?_
    refine q_callVi C (rm := rmX3_firstThatHolds) (As := [.int (2 : Int32), .ref (ad 59)]) (rest := []) (id := (61 + 5 * t5)) (ci := 3) (fun r9 σ9 h9 => kX3_firstThatHolds l D ad cy X A zs σ61 t5 (2 : Int32) ht5 r9 σ9 h9) gX1_tryToSetBack_X3_firstThatHolds rfl rfl rfl hyX3_firstThatHolds ⟨Nat.le_of_ble_eq_true rfl, Nat.le_of_ble_eq_true rfl⟩ (by omega) (ceC_t0 ad cy _ _ _ t5) rfl rfl rfl (Nat.le_of_ble_eq_true rfl) dX1_tryToSetBack_71 ⟨Nat.zero_le _, Nat.zero_le _⟩ h (fun r71 σ71 h => ?_)
    refine q_istore C dX1_tryToSetBack_74 (by decide) (lv' := [(0, .ref (ad 36)), (1, .int a1), (2, .int a2), (3, .int a3), (4, .ref (ad (61 + 5 * t5))), (5, .int x24), (6, .int x37), (7, .int r71)]) rfl ?_
    refine q_iload C dX1_tryToSetBack_76 7 rfl ?_
    refine q_iconst C (v := -1) dX1_tryToSetBack_78 (by decide) ?_
    refine q_join (G := fun (y114 : St) => qVv ceC 96 ad cy X A D p l e (headSpec wsX1_tryToSetBack rmX1_tryToSetBack).room s m args below meth c 8 r0 σ0 114 [] [] y114) h (fun y114 h => ?_) (fun j114 hj114 h => ?_)
    · exact q_vret C (r0 := r0) rfl dX1_tryToSetBack_114 h
    refine q_icmp_eq C (tgt := 114) dX1_tryToSetBack_79 (by decide) h (fun h => ?_) (fun h => ?_)
    · exact q_sub [] rfl (hj114 σ71 h)
    · refine q_aload_n C dX1_tryToSetBack_82 rfl 0 rfl ?_
      refine q_get C (Cn := RX1) (T := TX1) (Nf := 10) (ci := 1) (id := 36) (k := 3) (v := .ref (ad 37)) nX1_tryToSetBack_X1 (by decide) (ceC_36 ad cy _ _ _) rfl (by decide) rfl hX1_tryToSetBack_11 dX1_tryToSetBack_83 ?_
      refine q_iload_n C dX1_tryToSetBack_86 rfl 1 rfl ?_
      refine q_aald C (id := 37) (t0 := 6) (by decide) (ceC_37 ad cy _ _ _) rfl rfl dX1_tryToSetBack_87 h (fun _ => rfl) (fun hr87 h => ?_)
      refine q_iload C dX1_tryToSetBack_88 5 rfl ?_
      refine q_iload C dX1_tryToSetBack_90 6 rfl ?_
      refine q_iast C (id := (38 + a1.toNatClampNeg)) (by omega) (fun f g => ceC_r38 ad cy _ f g hr87) dX1_tryToSetBack_92 h (fun σ92 h => ?_)
      refine q_aload_n C dX1_tryToSetBack_93 rfl 0 rfl ?_
      refine q_get C (Cn := RX1) (T := TX1) (Nf := 10) (ci := 1) (id := 36) (k := 4) (v := .ref (ad 44)) nX1_tryToSetBack_X1 (by decide) (ceC_36 ad cy _ _ _) rfl (by decide) rfl hX1_tryToSetBack_16 dX1_tryToSetBack_94 ?_
      refine q_iload_n C dX1_tryToSetBack_97 rfl 1 rfl ?_
      refine q_aald C (id := 44) (t0 := 6) (by decide) (ceC_44 ad cy _ _ _) rfl rfl dX1_tryToSetBack_98 h (fun _ => rfl) (fun hr98 h => ?_)
      refine q_iload C dX1_tryToSetBack_99 5 rfl ?_
      refine q_iload C dX1_tryToSetBack_101 7 rfl ?_
      refine q_iast C (id := (45 + a1.toNatClampNeg)) (by omega) (fun f g => ceC_r45 ad cy _ f g hr98) dX1_tryToSetBack_103 h (fun σ103 h => ?_)
      refine q_aload_n C dX1_tryToSetBack_104 rfl 0 rfl ?_
      refine q_get C (Cn := RX1) (T := TX1) (Nf := 10) (ci := 1) (id := 36) (k := 5) (v := .ref (ad 51)) nX1_tryToSetBack_X1 (by decide) (ceC_36 ad cy _ _ _) rfl (by decide) rfl hX1_tryToSetBack_19 dX1_tryToSetBack_105 ?_
      refine q_iload_n C dX1_tryToSetBack_108 rfl 1 rfl ?_
      refine q_aald C (id := 51) (t0 := 6) (by decide) (ceC_51 ad cy _ _ _) rfl rfl dX1_tryToSetBack_109 h (fun _ => rfl) (fun hr109 h => ?_)
      refine q_iload C dX1_tryToSetBack_110 5 rfl ?_
      refine q_iload_n C dX1_tryToSetBack_112 rfl 2 rfl ?_
      refine q_iast C (id := (52 + a1.toNatClampNeg)) (by omega) (fun f g => ceC_r52 ad cy _ f g hr109) dX1_tryToSetBack_113 h (fun σ113 h => ?_)
      exact q_sub [] rfl (hj114 σ113 h)
  · exact q_vret C (r0 := r0) rfl dX1_tryToSetBack_17 h
abbrev rmX1_passEvening : Room := { frames := 4, cells := 0, slots := 0, locals := 102 }
theorem hyX1_passEvening : yX1_passEvening.cls = RX1 ∧ yX1_passEvening.cls ≠ "java/lang/invoke/MethodHandle" ∧ yX1_passEvening.cls ≠ "java/lang/invoke/VarHandle" ∧ (parseMethodDescriptor yX1_passEvening.desc).map (fun d => d.parameters.length) = some 2 := by decide +kernel
theorem nX1_passEvening_X1 : ∀ w ∈ u_ws RX1 TX1 10, w ∈ wsX1_passEvening := fun w h => List.mem_cons_of_mem _ (List.mem_append_left _ (List.mem_append_left _ (List.mem_append_left _ (List.mem_append_right _ h))))
theorem hX1_passEvening_22 : Cond.fieldLink RX1 22 (TX1 6).1 (TX1 6).2.1 (TX1 6).2.2.1 ∈ wsX1_passEvening := by decide +kernel
theorem hX1_passEvening_11 : Cond.fieldLink RX1 11 (TX1 3).1 (TX1 3).2.1 (TX1 3).2.2.1 ∈ wsX1_passEvening := by decide +kernel
theorem hX1_passEvening_16 : Cond.fieldLink RX1 16 (TX1 4).1 (TX1 4).2.1 (TX1 4).2.2.1 ∈ wsX1_passEvening := by decide +kernel
def fX1_passEvening (σ : St) (a1 : Int32) (a2 : Int32) : Option (Int32 × St) := qix a1 6 (qlet (σ.1 58 a1.toNatClampNeg) (fun x6 => qix a1 6 (qix x6 15 (qlet (a2 - (σ.1 (38 + a1.toNatClampNeg) x6.toNatClampNeg)) (fun x17 => qlet (fun (y87 : St) => (some ((0 : Int32), y87))) (fun j87 => (if x17 = (30 : Int32) then (qcall (fX1_beginMonth σ a1 a2 (-2 : Int32)) (fun _ σ31 => j87 σ31)) else (if x17 = (29 : Int32) then (qcall (fX1_tryToBegin σ a1 a2) (fun _ σ47 => j87 σ47)) else (if x17 < (1 : Int32) then (j87 σ) else (if (10 : Int32) < x17 then (j87 σ) else (qix a1 6 (qix x6 15 (if (σ.1 (45 + a1.toNatClampNeg) x6.toNatClampNeg) = (-2 : Int32) then (qcall (fX1_tryToSetBack σ a1 a2 x17) (fun _ σ84 => j87 σ84)) else (j87 σ))))))))))))))
set_option maxHeartbeats 4000000 in
set_option maxRecDepth 100000 in
theorem kX1_passEvening (l : Launch) (D : va_G) (ad : Nat → Nat) (cy : Nat → ClassId) (X : va_W) (A : Nat → Prop) (zs : Nat × Nat × Option Nat) (σ : St) (a1 : Int32) (a2 : Int32) (r0 : Int32) (σ0 : St) (h : fX1_passEvening σ a1 a2 = some (r0, σ0)) : Met l yX1_passEvening wsX1_passEvening rmX1_passEvening (qPc ceC 96 ad cy X A D zs [.ref (ad 36), .int a1, .int a2] σ) (qQv ceC 96 ad cy X A D σ0) 0 0 A := by
  refine Met.ofW (cc := cX1_passEvening) (maxL := 5) (ret := none) (by decide) rfl ?_
  intro p e s m args below meth c s₁ B hml hv
  obtain ⟨ha, hP, hK, hE, hD⟩ := hv
  have C : qC ceC 96 ad cy X A D zs cX1_passEvening 5 RX1 wsX1_passEvening p s m args meth c none := ⟨B.exec, B.bytes, hml, findClass_of_methodNamed B.named, atoms_spec (ws := wsX1_passEvening) B.pre, hK, hD, B.returns, B.notSynchronized, hE⟩
  rw [show entryFrame m args 5 = entryFrame m ([.ref (ad 36), .int a1, .int a2] : List Value).toArray 5 by rw [ha]]
  refine q_entry (A := A) (Nat.le_of_ble_eq_true rfl) hP (lv := [(0, .ref (ad 36)), (1, .int a1), (2, .int a2)]) rfl ?_
  unfold fX1_passEvening at h
  refine q_aload_n C dX1_passEvening_0 rfl 0 rfl ?_
  refine q_get C (Cn := RX1) (T := TX1) (Nf := 10) (ci := 1) (id := 36) (k := 6) (v := .ref (ad 58)) nX1_passEvening_X1 (by decide) (ceC_36 ad cy _ _ _) rfl (by decide) rfl hX1_passEvening_22 dX1_passEvening_1 ?_
  refine q_iload_n C dX1_passEvening_4 rfl 1 rfl ?_
  refine q_iald C (id := 58) (by decide) (ceC_58 ad cy _ _ _) dX1_passEvening_5 h (fun h => ?_)
  refine q_istore_nL C dX1_passEvening_6 rfl (by decide) h (lw := fun x6 => [(0, .ref (ad 36)), (1, .int a1), (2, .int a2), (3, .int x6)]) (fun _ => rfl) (fun x6 h => ?_)
  refine q_iload_n C dX1_passEvening_7 rfl 2 rfl ?_
  refine q_aload_n C dX1_passEvening_8 rfl 0 rfl ?_
  refine q_get C (Cn := RX1) (T := TX1) (Nf := 10) (ci := 1) (id := 36) (k := 3) (v := .ref (ad 37)) nX1_passEvening_X1 (by decide) (ceC_36 ad cy _ _ _) rfl (by decide) rfl hX1_passEvening_11 dX1_passEvening_9 ?_
  refine q_iload_n C dX1_passEvening_12 rfl 1 rfl ?_
  refine q_aald C (id := 37) (t0 := 6) (by decide) (ceC_37 ad cy _ _ _) rfl rfl dX1_passEvening_13 h (fun _ => rfl) (fun hr13 h => ?_)
  refine q_iload_n C dX1_passEvening_14 rfl 3 rfl ?_
  refine q_iald C (id := (38 + a1.toNatClampNeg)) (by omega) (ceC_r38 ad cy _ _ _ hr13) dX1_passEvening_15 h (fun h => ?_)
  refine q_isub C dX1_passEvening_16 ?_
  refine q_istoreL C dX1_passEvening_17 (by decide) h (lw := fun x17 => [(0, .ref (ad 36)), (1, .int a1), (2, .int a2), (3, .int x6), (4, .int x17)]) (fun _ => rfl) (fun x17 h => ?_)
  refine q_iload C dX1_passEvening_19 4 rfl ?_
  refine q_bipush C (v := 30) dX1_passEvening_21 (by decide) ?_
  refine q_join (G := fun (y87 : St) => qVv ceC 96 ad cy X A D p l e (headSpec wsX1_passEvening rmX1_passEvening).room s m args below meth c 5 r0 σ0 87 [] [] y87) h (fun y87 h => ?_) (fun j87 hj87 h => ?_)
  · exact q_vret C (r0 := r0) rfl dX1_passEvening_87 h
  refine q_icmp_ne C (tgt := 37) dX1_passEvening_23 (by decide) h (fun h => ?_) (fun h => ?_)
  · refine q_iload C dX1_passEvening_37 4 rfl ?_
    refine q_bipush C (v := 29) dX1_passEvening_39 (by decide) ?_
    refine q_icmp_ne C (tgt := 53) dX1_passEvening_41 (by decide) h (fun h => ?_) (fun h => ?_)
    · refine q_iload C dX1_passEvening_53 4 rfl ?_
      refine q_iconst C (v := 1) dX1_passEvening_55 (by decide) ?_
      refine q_icmp_lt C (tgt := 87) dX1_passEvening_56 (by decide) h (fun h => ?_) (fun h => ?_)
      · exact q_sub [] rfl (hj87 σ h)
      · refine q_iload C dX1_passEvening_59 4 rfl ?_
        refine q_bipush C (v := 10) dX1_passEvening_61 (by decide) ?_
        refine q_icmp_gt C (tgt := 87) dX1_passEvening_63 (by decide) h (fun h => ?_) (fun h => ?_)
        · exact q_sub [] rfl (hj87 σ h)
        · refine q_aload_n C dX1_passEvening_66 rfl 0 rfl ?_
          refine q_get C (Cn := RX1) (T := TX1) (Nf := 10) (ci := 1) (id := 36) (k := 4) (v := .ref (ad 44)) nX1_passEvening_X1 (by decide) (ceC_36 ad cy _ _ _) rfl (by decide) rfl hX1_passEvening_16 dX1_passEvening_67 ?_
          refine q_iload_n C dX1_passEvening_70 rfl 1 rfl ?_
          refine q_aald C (id := 44) (t0 := 6) (by decide) (ceC_44 ad cy _ _ _) rfl rfl dX1_passEvening_71 h (fun _ => rfl) (fun hr71 h => ?_)
          refine q_iload_n C dX1_passEvening_72 rfl 3 rfl ?_
          refine q_iald C (id := (45 + a1.toNatClampNeg)) (by omega) (ceC_r45 ad cy _ _ _ hr71) dX1_passEvening_73 h (fun h => ?_)
          refine q_bipush C (v := -2) dX1_passEvening_74 (by decide) ?_
          refine q_icmp_ne C (tgt := 87) dX1_passEvening_76 (by decide) h (fun h => ?_) (fun h => ?_)
          · exact q_sub [] rfl (hj87 σ h)
          · refine q_aload_n C dX1_passEvening_79 rfl 0 rfl ?_
            refine q_iload_n C dX1_passEvening_80 rfl 1 rfl ?_
            refine q_iload_n C dX1_passEvening_81 rfl 2 rfl ?_
            refine q_iload C dX1_passEvening_82 4 rfl ?_
            refine q_callVv C (rm := rmX1_tryToSetBack) (As := [.int a1, .int a2, .int x17]) (rest := []) (id := 36) (ci := 1) (fun r9 σ9 h9 => kX1_tryToSetBack l D ad cy X A zs σ a1 a2 x17 r9 σ9 h9) gX1_passEvening_X1_tryToSetBack rfl rfl rfl hyX1_tryToSetBack ⟨Nat.le_of_ble_eq_true rfl, Nat.le_of_ble_eq_true rfl⟩ (by decide) (ceC_36 ad cy _ _ _) rfl rfl rfl (Nat.le_of_ble_eq_true rfl) dX1_passEvening_84 ⟨Nat.zero_le _, Nat.zero_le _⟩ h (fun r84 σ84 h => ?_)
            exact q_sub [] rfl (hj87 σ84 h)
    · refine q_aload_n C dX1_passEvening_44 rfl 0 rfl ?_
      refine q_iload_n C dX1_passEvening_45 rfl 1 rfl ?_
      refine q_iload_n C dX1_passEvening_46 rfl 2 rfl ?_
      refine q_callVv C (rm := rmX1_tryToBegin) (As := [.int a1, .int a2]) (rest := []) (id := 36) (ci := 1) (fun r9 σ9 h9 => kX1_tryToBegin l D ad cy X A zs σ a1 a2 r9 σ9 h9) gX1_passEvening_X1_tryToBegin rfl rfl rfl hyX1_tryToBegin ⟨Nat.le_of_ble_eq_true rfl, Nat.le_of_ble_eq_true rfl⟩ (by decide) (ceC_36 ad cy _ _ _) rfl rfl rfl (Nat.le_of_ble_eq_true rfl) dX1_passEvening_47 ⟨Nat.zero_le _, Nat.zero_le _⟩ h (fun r47 σ47 h => ?_)
      refine q_goto C (tgt := 87) dX1_passEvening_50 (by decide) ?_
      exact q_sub [] rfl (hj87 σ47 h)
  · refine q_aload_n C dX1_passEvening_26 rfl 0 rfl ?_
    refine q_iload_n C dX1_passEvening_27 rfl 1 rfl ?_
    refine q_iload_n C dX1_passEvening_28 rfl 2 rfl ?_
    refine q_bipush C (v := -2) dX1_passEvening_29 (by decide) ?_
    refine q_callVv C (rm := rmX1_beginMonth) (As := [.int a1, .int a2, .int (-2 : Int32)]) (rest := []) (id := 36) (ci := 1) (fun r9 σ9 h9 => kX1_beginMonth l D ad cy X A zs σ a1 a2 (-2 : Int32) r9 σ9 h9) gX1_passEvening_X1_beginMonth rfl rfl rfl hyX1_beginMonth ⟨Nat.le_of_ble_eq_true rfl, Nat.le_of_ble_eq_true rfl⟩ (by decide) (ceC_36 ad cy _ _ _) rfl rfl rfl (Nat.le_of_ble_eq_true rfl) dX1_passEvening_31 ⟨Nat.zero_le _, Nat.zero_le _⟩ h (fun r31 σ31 h => ?_)
    refine q_goto C (tgt := 87) dX1_passEvening_34 (by decide) ?_
    exact q_sub [] rfl (hj87 σ31 h)
abbrev rmX1_standBy : Room := { frames := 5, cells := 0, slots := 0, locals := 126 }
theorem hyX1_standBy : yX1_standBy.cls = RX1 ∧ yX1_standBy.cls ≠ "java/lang/invoke/MethodHandle" ∧ yX1_standBy.cls ≠ "java/lang/invoke/VarHandle" ∧ (parseMethodDescriptor yX1_standBy.desc).map (fun d => d.parameters.length) = some 1 := by decide +kernel
theorem nX1_standBy_X1 : ∀ w ∈ u_ws RX1 TX1 10, w ∈ wsX1_standBy := fun w h => List.mem_cons_of_mem _ (List.mem_append_left _ (List.mem_append_left _ (List.mem_append_left _ (List.mem_append_right _ h))))
theorem nX1_standBy_X4 : ∀ w ∈ u_ws RX4 TX4 8, w ∈ wsX1_standBy := fun w h => List.mem_cons_of_mem _ (List.mem_append_left _ (List.mem_append_left _ (List.mem_append_right _ h)))
theorem hX1_standBy_40 : Cond.fieldLink RX1 40 (TX1 1).1 (TX1 1).2.1 (TX1 1).2.2.1 ∈ wsX1_standBy := by decide +kernel
theorem hX1_standBy_33 : Cond.fieldLink RX1 33 (TX1 9).1 (TX1 9).2.1 (TX1 9).2.2.1 ∈ wsX1_standBy := by decide +kernel
theorem hX1_standBy_36 : Cond.fieldLink RX1 36 (TX1 0).1 (TX1 0).2.1 (TX1 0).2.2.1 ∈ wsX1_standBy := by decide +kernel
theorem hX1_standBy_54 : Cond.fieldLink RX1 54 (TX4 7).1 (TX4 7).2.1 (TX4 7).2.2.1 ∈ wsX1_standBy := by decide +kernel
def fX1_standBy_L (a1 : Int32) : Nat → Nat → Int32 → Int32 → St → Option (Int32 × St)
  | 0, _, _, _, _ => none
  | n + 1, lab, v2, v3, σ => if lab = 0 then (if (σ.1 2 7) ≤ v2 then (fX1_standBy_L a1 n 1 (0 : Int32) 0 σ) else (qcall (fX1_startMonths σ v2) (fun _ σ32 => qlet (v2 + (1 : Int32)) (fun x35 => fX1_standBy_L a1 n 0 x35 0 σ32)))) else if lab = 1 then (if (400 : Int32) ≤ v2 then (qlet (sI σ 36 9 a1) (fun σ83 => some ((0 : Int32), σ83))) else (fX1_standBy_L a1 n 2 v2 (0 : Int32) σ)) else (if (σ.1 2 7) ≤ v3 then (qlet (v2 + (1 : Int32)) (fun x75 => fX1_standBy_L a1 n 1 x75 0 σ)) else (qcall (fX1_passEvening σ v3 v2) (fun _ σ66 => qlet (v3 + (1 : Int32)) (fun x69 => fX1_standBy_L a1 n 2 v2 x69 σ66))))
def fX1_standBy (σ : St) (a1 : Int32) : Option (Int32 × St) := qcall (fX0_judge σ a1) (fun _ σ5 => if (σ5.1 36 9) = a1 then (some ((0 : Int32), σ5)) else (fX1_standBy_L a1 100000 0 (0 : Int32) 0 σ5))
set_option maxHeartbeats 4000000 in
set_option maxRecDepth 100000 in
theorem kX1_standBy_L {ad : Nat → Nat} {cy : Nat → ClassId} {X : va_W} {A : Nat → Prop} {D : va_G} {zs : Nat × Nat × Option Nat} {p : Program} {l : Launch} {e : Env} {s : State} {m : MethodId} {args : Array Value} {below : List Frame} {meth : Method} {c : Code} {a1 : Int32} (C : qC ceC 96 ad cy X A D zs cX1_standBy 4 RX1 wsX1_standBy p s m args meth c none) (r0 : Int32) (σ0 : St) (n : Nat) : (∀ (v2 : Int32) (σ : St), fX1_standBy_L a1 n 0 v2 0 σ = some (r0, σ0) → qVv ceC 96 ad cy X A D p l e (headSpec wsX1_standBy rmX1_standBy).room s m args below meth c 4 r0 σ0 19 [(0, .ref (ad 36)), (1, .int a1), (2, .int v2)] [] σ) ∧ (∀ (v2 : Int32) (σ : St), fX1_standBy_L a1 n 1 v2 0 σ = some (r0, σ0) → qVv ceC 96 ad cy X A D p l e (headSpec wsX1_standBy rmX1_standBy).room s m args below meth c 4 r0 σ0 43 [(0, .ref (ad 36)), (1, .int a1), (2, .int v2)] [] σ) ∧ (∀ (v2 : Int32) (v3 : Int32) (σ : St), fX1_standBy_L a1 n 2 v2 v3 σ = some (r0, σ0) → qVv ceC 96 ad cy X A D p l e (headSpec wsX1_standBy rmX1_standBy).room s m args below meth c 4 r0 σ0 52 [(0, .ref (ad 36)), (1, .int a1), (2, .int v2), (3, .int v3)] [] σ) := by
  induction n with
  | zero =>
    refine ⟨?_, ?_, ?_⟩
    · intro v2 σ h; cases h
    · intro v2 σ h; cases h
    · intro v2 v3 σ h; cases h
  | succ n ih =>
    refine ⟨?_, ?_, ?_⟩
    · intro v2 σ h
      rw [fX1_standBy_L] at h
      rw [if_pos rfl] at h
      refine q_iload_n C dX1_standBy_19 rfl 2 rfl ?_
      refine q_aload_n C dX1_standBy_20 rfl 0 rfl ?_
      refine q_get C (Cn := RX1) (T := TX1) (Nf := 10) (ci := 1) (id := 36) (k := 0) (v := .ref (ad 2)) nX1_standBy_X1 (by decide) (ceC_36 ad cy _ _ _) rfl (by decide) rfl hX1_standBy_36 dX1_standBy_21 ?_
      refine q_get C (Cn := RX4) (T := TX4) (Nf := 8) (ci := 4) (id := 2) (k := 7) (v := .int (σ.1 2 7)) nX1_standBy_X4 (by decide) (ceC_2 ad cy _ _ _) rfl (by decide) rfl hX1_standBy_54 dX1_standBy_24 ?_
      refine q_icmp_ge C (tgt := 41) dX1_standBy_27 (by decide) h (fun h => ?_) (fun h => ?_)
      · refine q_iconst C (v := 0) dX1_standBy_41 (by decide) ?_
        refine q_istore_n C dX1_standBy_42 rfl (by decide) (lv' := [(0, .ref (ad 36)), (1, .int a1), (2, .int (0 : Int32))]) rfl ?_
        exact q_sub [0, 1, 2] rfl (ih.2.1 (0 : Int32) σ h)
      · refine q_aload_n C dX1_standBy_30 rfl 0 rfl ?_
        refine q_iload_n C dX1_standBy_31 rfl 2 rfl ?_
        refine q_callVv C (rm := rmX1_startMonths) (As := [.int v2]) (rest := []) (id := 36) (ci := 1) (fun r9 σ9 h9 => kX1_startMonths l D ad cy X A zs σ v2 r9 σ9 h9) gX1_standBy_X1_startMonths rfl rfl rfl hyX1_startMonths ⟨Nat.le_of_ble_eq_true rfl, Nat.le_of_ble_eq_true rfl⟩ (by decide) (ceC_36 ad cy _ _ _) rfl rfl rfl (Nat.le_of_ble_eq_true rfl) dX1_standBy_32 ⟨Nat.zero_le _, Nat.zero_le _⟩ h (fun r32 σ32 h => ?_)
        refine q_iincL C dX1_standBy_35 2 rfl (by decide) (nv := 1) (by decide) h (lw := fun x35 => [(0, .ref (ad 36)), (1, .int a1), (2, .int x35)]) (fun _ => rfl) (fun x35 h => ?_)
        refine q_goto C (tgt := 19) dX1_standBy_38 (by decide) ?_
        exact q_sub [0, 1, 2] rfl (ih.1 x35 σ32 h)
    · intro v2 σ h
      rw [fX1_standBy_L] at h
      rw [if_neg (by decide)] at h
      rw [if_pos rfl] at h
      refine q_iload_n C dX1_standBy_43 rfl 2 rfl ?_
      refine q_sipush C (v := 400) dX1_standBy_44 (by decide) ?_
      refine q_icmp_ge C (tgt := 81) dX1_standBy_47 (by decide) h (fun h => ?_) (fun h => ?_)
      · refine q_aload_n C dX1_standBy_81 rfl 0 rfl ?_
        refine q_iload_n C dX1_standBy_82 rfl 1 rfl ?_
        refine q_put C (Cn := RX1) (T := TX1) (ty0 := tyX1) (Nf := 10) (ci := 1) (id := 36) (k := 9) (y := 0) tyX1_ok nmX1 nX1_standBy_X1 (by decide) (ceC_36 ad cy _ _ _) (ceC_36 ad cy _ _ _) rfl (by decide) rfl (by decide +kernel) (Nat.le_of_ble_eq_true rfl) hX1_standBy_33 dX1_standBy_83 h (fun σ83 h => ?_)
        exact q_vret C (r0 := r0) rfl dX1_standBy_86 h
      · refine q_iconst C (v := 0) dX1_standBy_50 (by decide) ?_
        refine q_istore_n C dX1_standBy_51 rfl (by decide) (lv' := [(0, .ref (ad 36)), (1, .int a1), (2, .int v2), (3, .int (0 : Int32))]) rfl ?_
        exact q_sub [0, 1, 2, 3] rfl (ih.2.2 v2 (0 : Int32) σ h)
    · intro v2 v3 σ h
      rw [fX1_standBy_L] at h
      rw [if_neg (by decide)] at h
      rw [if_neg (by decide)] at h
      refine q_iload_n C dX1_standBy_52 rfl 3 rfl ?_
      refine q_aload_n C dX1_standBy_53 rfl 0 rfl ?_
      refine q_get C (Cn := RX1) (T := TX1) (Nf := 10) (ci := 1) (id := 36) (k := 0) (v := .ref (ad 2)) nX1_standBy_X1 (by decide) (ceC_36 ad cy _ _ _) rfl (by decide) rfl hX1_standBy_36 dX1_standBy_54 ?_
      refine q_get C (Cn := RX4) (T := TX4) (Nf := 8) (ci := 4) (id := 2) (k := 7) (v := .int (σ.1 2 7)) nX1_standBy_X4 (by decide) (ceC_2 ad cy _ _ _) rfl (by decide) rfl hX1_standBy_54 dX1_standBy_57 ?_
      refine q_icmp_ge C (tgt := 75) dX1_standBy_60 (by decide) h (fun h => ?_) (fun h => ?_)
      · refine q_iincL C dX1_standBy_75 2 rfl (by decide) (nv := 1) (by decide) h (lw := fun x75 => [(0, .ref (ad 36)), (1, .int a1), (2, .int x75), (3, .int v3)]) (fun _ => rfl) (fun x75 h => ?_)
        refine q_goto C (tgt := 43) dX1_standBy_78 (by decide) ?_
        exact q_sub [0, 1, 2] rfl (ih.2.1 x75 σ h)
      · refine q_aload_n C dX1_standBy_63 rfl 0 rfl ?_
        refine q_iload_n C dX1_standBy_64 rfl 3 rfl ?_
        refine q_iload_n C dX1_standBy_65 rfl 2 rfl ?_
        refine q_callVv C (rm := rmX1_passEvening) (As := [.int v3, .int v2]) (rest := []) (id := 36) (ci := 1) (fun r9 σ9 h9 => kX1_passEvening l D ad cy X A zs σ v3 v2 r9 σ9 h9) gX1_standBy_X1_passEvening rfl rfl rfl hyX1_passEvening ⟨Nat.le_of_ble_eq_true rfl, Nat.le_of_ble_eq_true rfl⟩ (by decide) (ceC_36 ad cy _ _ _) rfl rfl rfl (Nat.le_of_ble_eq_true rfl) dX1_standBy_66 ⟨Nat.zero_le _, Nat.zero_le _⟩ h (fun r66 σ66 h => ?_)
        refine q_iincL C dX1_standBy_69 3 rfl (by decide) (nv := 1) (by decide) h (lw := fun x69 => [(0, .ref (ad 36)), (1, .int a1), (2, .int v2), (3, .int x69)]) (fun _ => rfl) (fun x69 h => ?_)
        refine q_goto C (tgt := 52) dX1_standBy_72 (by decide) ?_
        exact q_sub [0, 1, 2, 3] rfl (ih.2.2 v2 x69 σ66 h)
set_option maxHeartbeats 4000000 in
set_option maxRecDepth 100000 in
theorem kX1_standBy (l : Launch) (D : va_G) (ad : Nat → Nat) (cy : Nat → ClassId) (X : va_W) (A : Nat → Prop) (zs : Nat × Nat × Option Nat) (σ : St) (a1 : Int32) (r0 : Int32) (σ0 : St) (h : fX1_standBy σ a1 = some (r0, σ0)) : Met l yX1_standBy wsX1_standBy rmX1_standBy (qPc ceC 96 ad cy X A D zs [.ref (ad 36), .int a1] σ) (qQv ceC 96 ad cy X A D σ0) 0 0 A := by
  refine Met.ofW (cc := cX1_standBy) (maxL := 4) (ret := none) (by decide) rfl ?_
  intro p e s m args below meth c s₁ B hml hv
  obtain ⟨ha, hP, hK, hE, hD⟩ := hv
  have C : qC ceC 96 ad cy X A D zs cX1_standBy 4 RX1 wsX1_standBy p s m args meth c none := ⟨B.exec, B.bytes, hml, findClass_of_methodNamed B.named, atoms_spec (ws := wsX1_standBy) B.pre, hK, hD, B.returns, B.notSynchronized, hE⟩
  rw [show entryFrame m args 4 = entryFrame m ([.ref (ad 36), .int a1] : List Value).toArray 4 by rw [ha]]
  refine q_entry (A := A) (Nat.le_of_ble_eq_true rfl) hP (lv := [(0, .ref (ad 36)), (1, .int a1)]) rfl ?_
  unfold fX1_standBy at h
  refine q_aload_n C dX1_standBy_0 rfl 0 rfl ?_
  refine q_get C (Cn := RX1) (T := TX1) (Nf := 10) (ci := 1) (id := 36) (k := 1) (v := .ref (ad 21)) nX1_standBy_X1 (by decide) (ceC_36 ad cy _ _ _) rfl (by decide) rfl hX1_standBy_40 dX1_standBy_1 ?_
  refine q_iload_n C dX1_standBy_4 rfl 1 rfl ?_
  refine q_callVv C (rm := rmX0_judge) (As := [.int a1]) (rest := []) (id := 21) (ci := 0) (fun r9 σ9 h9 => kX0_judge l D ad cy X A zs σ a1 r9 σ9 h9) gX1_standBy_X0_judge rfl rfl rfl hyX0_judge ⟨Nat.le_of_ble_eq_true rfl, Nat.le_of_ble_eq_true rfl⟩ (by decide) (ceC_21 ad cy _ _ _) rfl rfl rfl (Nat.le_of_ble_eq_true rfl) dX1_standBy_5 ⟨Nat.zero_le _, Nat.zero_le _⟩ h (fun r5 σ5 h => ?_)
  refine q_aload_n C dX1_standBy_8 rfl 0 rfl ?_
  refine q_get C (Cn := RX1) (T := TX1) (Nf := 10) (ci := 1) (id := 36) (k := 9) (v := .int (σ5.1 36 9)) nX1_standBy_X1 (by decide) (ceC_36 ad cy _ _ _) rfl (by decide) rfl hX1_standBy_33 dX1_standBy_9 ?_
  refine q_iload_n C dX1_standBy_12 rfl 1 rfl ?_
  refine q_icmp_ne C (tgt := 17) dX1_standBy_13 (by decide) h (fun h => ?_) (fun h => ?_)
  · refine q_iconst C (v := 0) dX1_standBy_17 (by decide) ?_
    refine q_istore_n C dX1_standBy_18 rfl (by decide) (lv' := [(0, .ref (ad 36)), (1, .int a1), (2, .int (0 : Int32))]) rfl ?_
    exact q_sub [0, 1, 2] rfl ((kX1_standBy_L C r0 σ0 100000).1 (0 : Int32) σ5 h)
  · exact q_vret C (r0 := r0) rfl dX1_standBy_16 h
abbrev rmX1_heardReport : Room := { frames := 2, cells := 0, slots := 0, locals := 49 }
theorem hyX1_heardReport : yX1_heardReport.cls = RX1 ∧ yX1_heardReport.cls ≠ "java/lang/invoke/MethodHandle" ∧ yX1_heardReport.cls ≠ "java/lang/invoke/VarHandle" ∧ (parseMethodDescriptor yX1_heardReport.desc).map (fun d => d.parameters.length) = some 3 := by decide +kernel
theorem nX1_heardReport_X0 : ∀ w ∈ u_ws RX0 TX0 9, w ∈ wsX1_heardReport := by decide +kernel
theorem nX1_heardReport_X1 : ∀ w ∈ u_ws RX1 TX1 10, w ∈ wsX1_heardReport := by decide +kernel
theorem hX1_heardReport_11 : Cond.fieldLink RX1 11 (TX1 3).1 (TX1 3).2.1 (TX1 3).2.2.1 ∈ wsX1_heardReport := by decide +kernel
theorem hX1_heardReport_40 : Cond.fieldLink RX1 40 (TX1 1).1 (TX1 1).2.1 (TX1 1).2.2.1 ∈ wsX1_heardReport := by decide +kernel
theorem hX1_heardReport_98 : Cond.fieldLink RX1 98 (TX0 8).1 (TX0 8).2.1 (TX0 8).2.2.1 ∈ wsX1_heardReport := by decide +kernel
theorem hX1_heardReport_19 : Cond.fieldLink RX1 19 (TX1 5).1 (TX1 5).2.1 (TX1 5).2.2.1 ∈ wsX1_heardReport := by decide +kernel
def fX1_heardReport_L (a1 : Int32) (a2 : Int32) (a3 : Int32) : Nat → Int32 → Int32 → St → Option (Int32 × St)
  | 0, _, _, _ => none
  | n + 1, v4, v5, σ => if (σ.1 21 8) ≤ v5 then (some ((-1 : Int32), σ)) else (qix a1 6 (qix a2 15 (qix a1 6 (qix a2 15 (qcall (fX0_isHeard σ v5 a1 (σ.1 (52 + a1.toNatClampNeg) a2.toNatClampNeg) (σ.1 (38 + a1.toNatClampNeg) a2.toNatClampNeg)) (fun r55 σ55 => qlet (fun (y72 : Int32) => (qlet (v5 + (1 : Int32)) (fun x72 => fX1_heardReport_L a1 a2 a3 n y72 x72 σ55))) (fun j72 => (if r55 = (0 : Int32) then (j72 v4) else (if v4 = (0 : Int32) then (some (v5, σ55)) else (qlet (v4 + (-1 : Int32)) (fun x69 => j72 x69)))))))))))
def fX1_heardReport (σ : St) (a1 : Int32) (a2 : Int32) (a3 : Int32) : Option (Int32 × St) := qix a1 6 (qix a2 15 (if (σ.1 (38 + a1.toNatClampNeg) a2.toNatClampNeg) = (-1 : Int32) then (some ((-1 : Int32), σ)) else (fX1_heardReport_L a1 a2 a3 100000 a3 (0 : Int32) σ)))
set_option maxHeartbeats 4000000 in
set_option maxRecDepth 100000 in
theorem kX1_heardReport_L {ad : Nat → Nat} {cy : Nat → ClassId} {X : va_W} {A : Nat → Prop} {D : va_G} {zs : Nat × Nat × Option Nat} {p : Program} {l : Launch} {e : Env} {s : State} {m : MethodId} {args : Array Value} {below : List Frame} {meth : Method} {c : Code} {a1 : Int32} {a2 : Int32} {a3 : Int32} (C : qC ceC 96 ad cy X A D zs cX1_heardReport 6 RX1 wsX1_heardReport p s m args meth c (some .int)) (r0 : Int32) (σ0 : St) (n : Nat) : (∀ (v4 : Int32) (v5 : Int32) (σ : St), fX1_heardReport_L a1 a2 a3 n v4 v5 σ = some (r0, σ0) → qVi ceC 96 ad cy X A D p l e (headSpec wsX1_heardReport rmX1_heardReport).room s m args below meth c 6 r0 σ0 20 [(0, .ref (ad 36)), (1, .int a1), (2, .int a2), (4, .int v4), (5, .int v5)] [] σ) := by
  induction n with
  | zero =>
    intro v4 v5 σ h; cases h
  | succ n ih =>
    intro v4 v5 σ h
    rw [fX1_heardReport_L] at h
    refine q_iload C dX1_heardReport_20 4 rfl ?_
    refine q_aload_n C dX1_heardReport_22 rfl 0 rfl ?_
    refine q_get C (Cn := RX1) (T := TX1) (Nf := 10) (ci := 1) (id := 36) (k := 1) (v := .ref (ad 21)) nX1_heardReport_X1 (by decide) (ceC_36 ad cy _ _ _) rfl (by decide) rfl hX1_heardReport_40 dX1_heardReport_23 ?_
    refine q_get C (Cn := RX0) (T := TX0) (Nf := 9) (ci := 0) (id := 21) (k := 8) (v := .int (σ.1 21 8)) nX1_heardReport_X0 (by decide) (ceC_21 ad cy _ _ _) rfl (by decide) rfl hX1_heardReport_98 dX1_heardReport_26 ?_
    refine q_icmp_ge C (tgt := 78) dX1_heardReport_29 (by decide) h (fun h => ?_) (fun h => ?_)
    · refine q_iconst C (v := -1) dX1_heardReport_78 (by decide) ?_
      exact q_iret C rfl dX1_heardReport_79 h
    · refine q_aload_n C dX1_heardReport_32 rfl 0 rfl ?_
      refine q_get C (Cn := RX1) (T := TX1) (Nf := 10) (ci := 1) (id := 36) (k := 1) (v := .ref (ad 21)) nX1_heardReport_X1 (by decide) (ceC_36 ad cy _ _ _) rfl (by decide) rfl hX1_heardReport_40 dX1_heardReport_33 ?_
      refine q_iload C dX1_heardReport_36 4 rfl ?_
      refine q_iload_n C dX1_heardReport_38 rfl 1 rfl ?_
      refine q_aload_n C dX1_heardReport_39 rfl 0 rfl ?_
      refine q_get C (Cn := RX1) (T := TX1) (Nf := 10) (ci := 1) (id := 36) (k := 5) (v := .ref (ad 51)) nX1_heardReport_X1 (by decide) (ceC_36 ad cy _ _ _) rfl (by decide) rfl hX1_heardReport_19 dX1_heardReport_40 ?_
      refine q_iload_n C dX1_heardReport_43 rfl 1 rfl ?_
      refine q_aald C (id := 51) (t0 := 6) (by decide) (ceC_51 ad cy _ _ _) rfl rfl dX1_heardReport_44 h (fun _ => rfl) (fun hr44 h => ?_)
      refine q_iload_n C dX1_heardReport_45 rfl 2 rfl ?_
      refine q_iald C (id := (52 + a1.toNatClampNeg)) (by omega) (ceC_r52 ad cy _ _ _ hr44) dX1_heardReport_46 h (fun h => ?_)
      refine q_aload_n C dX1_heardReport_47 rfl 0 rfl ?_
      refine q_get C (Cn := RX1) (T := TX1) (Nf := 10) (ci := 1) (id := 36) (k := 3) (v := .ref (ad 37)) nX1_heardReport_X1 (by decide) (ceC_36 ad cy _ _ _) rfl (by decide) rfl hX1_heardReport_11 dX1_heardReport_48 ?_
      refine q_iload_n C dX1_heardReport_51 rfl 1 rfl ?_
      refine q_aald C (id := 37) (t0 := 6) (by decide) (ceC_37 ad cy _ _ _) rfl rfl dX1_heardReport_52 h (fun _ => rfl) (fun hr52 h => ?_)
      refine q_iload_n C dX1_heardReport_53 rfl 2 rfl ?_
      refine q_iald C (id := (38 + a1.toNatClampNeg)) (by omega) (ceC_r38 ad cy _ _ _ hr52) dX1_heardReport_54 h (fun h => ?_)
      refine q_callVi C (rm := rmX0_isHeard) (As := [.int v5, .int a1, .int (σ.1 (52 + a1.toNatClampNeg) a2.toNatClampNeg), .int (σ.1 (38 + a1.toNatClampNeg) a2.toNatClampNeg)]) (rest := []) (id := 21) (ci := 0) (fun r9 σ9 h9 => kX0_isHeard l D ad cy X A zs σ v5 a1 (σ.1 (52 + a1.toNatClampNeg) a2.toNatClampNeg) (σ.1 (38 + a1.toNatClampNeg) a2.toNatClampNeg) r9 σ9 h9) gX1_heardReport_X0_isHeard rfl rfl rfl hyX0_isHeard ⟨Nat.le_of_ble_eq_true rfl, Nat.le_of_ble_eq_true rfl⟩ (by decide) (ceC_21 ad cy _ _ _) rfl rfl rfl (Nat.le_of_ble_eq_true rfl) dX1_heardReport_55 ⟨Nat.zero_le _, Nat.zero_le _⟩ h (fun r55 σ55 h => ?_)
      refine q_join (G := fun (y72 : Int32) => qVi ceC 96 ad cy X A D p l e (headSpec wsX1_heardReport rmX1_heardReport).room s m args below meth c 6 r0 σ0 72 [(0, .ref (ad 36)), (1, .int a1), (2, .int a2), (4, .int y72), (5, .int v5)] [] σ55) h (fun y72 h => ?_) (fun j72 hj72 h => ?_)
      · refine q_iincL C dX1_heardReport_72 4 rfl (by decide) (nv := 1) (by decide) h (lw := fun x72 => [(0, .ref (ad 36)), (1, .int a1), (2, .int a2), (4, .int y72), (5, .int x72)]) (fun _ => rfl) (fun x72 h => ?_)
        refine q_goto C (tgt := 20) dX1_heardReport_75 (by decide) ?_
        exact q_sub [0, 1, 2, 3, 4] rfl (ih y72 x72 σ55 h)
      refine q_if_eq C (tgt := 72) dX1_heardReport_58 (by decide) h (fun h => ?_) (fun h => ?_)
      · exact q_sub [0, 1, 2, 3, 4] rfl (hj72 v4 h)
      · refine q_iload C dX1_heardReport_61 3 rfl ?_
        refine q_if_ne C (tgt := 69) dX1_heardReport_63 (by decide) h (fun h => ?_) (fun h => ?_)
        · refine q_iincL C dX1_heardReport_69 3 rfl (by decide) (nv := -1) (by decide) h (lw := fun x69 => [(0, .ref (ad 36)), (1, .int a1), (2, .int a2), (4, .int x69), (5, .int v5)]) (fun _ => rfl) (fun x69 h => ?_)
          exact q_sub [0, 1, 2, 3, 4] rfl (hj72 x69 h)
        · refine q_iload C dX1_heardReport_66 4 rfl ?_
          exact q_iret C rfl dX1_heardReport_68 h
set_option maxHeartbeats 4000000 in
set_option maxRecDepth 100000 in
theorem kX1_heardReport (l : Launch) (D : va_G) (ad : Nat → Nat) (cy : Nat → ClassId) (X : va_W) (A : Nat → Prop) (zs : Nat × Nat × Option Nat) (σ : St) (a1 : Int32) (a2 : Int32) (a3 : Int32) (r0 : Int32) (σ0 : St) (h : fX1_heardReport σ a1 a2 a3 = some (r0, σ0)) : Met l yX1_heardReport wsX1_heardReport rmX1_heardReport (qPc ceC 96 ad cy X A D zs [.ref (ad 36), .int a1, .int a2, .int a3] σ) (qQi ceC 96 ad cy X A D r0 σ0) 0 0 A := by
  refine Met.ofW (cc := cX1_heardReport) (maxL := 6) (ret := (some .int)) (by decide) rfl ?_
  intro p e s m args below meth c s₁ B hml hv
  obtain ⟨ha, hP, hK, hE, hD⟩ := hv
  have C : qC ceC 96 ad cy X A D zs cX1_heardReport 6 RX1 wsX1_heardReport p s m args meth c (some .int) := ⟨B.exec, B.bytes, hml, findClass_of_methodNamed B.named, atoms_spec (ws := wsX1_heardReport) B.pre, hK, hD, B.returns, B.notSynchronized, hE⟩
  rw [show entryFrame m args 6 = entryFrame m ([.ref (ad 36), .int a1, .int a2, .int a3] : List Value).toArray 6 by rw [ha]]
  refine q_entry (A := A) (Nat.le_of_ble_eq_true rfl) hP (lv := [(0, .ref (ad 36)), (1, .int a1), (2, .int a2), (3, .int a3)]) rfl ?_
  unfold fX1_heardReport at h
  refine q_aload_n C dX1_heardReport_0 rfl 0 rfl ?_
  refine q_get C (Cn := RX1) (T := TX1) (Nf := 10) (ci := 1) (id := 36) (k := 3) (v := .ref (ad 37)) nX1_heardReport_X1 (by decide) (ceC_36 ad cy _ _ _) rfl (by decide) rfl hX1_heardReport_11 dX1_heardReport_1 ?_
  refine q_iload_n C dX1_heardReport_4 rfl 1 rfl ?_
  refine q_aald C (id := 37) (t0 := 6) (by decide) (ceC_37 ad cy _ _ _) rfl rfl dX1_heardReport_5 h (fun _ => rfl) (fun hr5 h => ?_)
  refine q_iload_n C dX1_heardReport_6 rfl 2 rfl ?_
  refine q_iald C (id := (38 + a1.toNatClampNeg)) (by omega) (ceC_r38 ad cy _ _ _ hr5) dX1_heardReport_7 h (fun h => ?_)
  refine q_iconst C (v := -1) dX1_heardReport_8 (by decide) ?_
  refine q_icmp_ne C (tgt := 14) dX1_heardReport_9 (by decide) h (fun h => ?_) (fun h => ?_)
  · refine q_iload_n C dX1_heardReport_14 rfl 3 rfl ?_
    refine q_istore C dX1_heardReport_15 (by decide) (lv' := [(0, .ref (ad 36)), (1, .int a1), (2, .int a2), (3, .int a3), (4, .int a3)]) rfl ?_
    refine q_iconst C (v := 0) dX1_heardReport_17 (by decide) ?_
    refine q_istore C dX1_heardReport_18 (by decide) (lv' := [(0, .ref (ad 36)), (1, .int a1), (2, .int a2), (3, .int a3), (4, .int a3), (5, .int (0 : Int32))]) rfl ?_
    exact q_sub [0, 1, 2, 4, 5] rfl ((kX1_heardReport_L C r0 σ0 100000) a3 (0 : Int32) σ h)
  · refine q_iconst C (v := -1) dX1_heardReport_12 (by decide) ?_
    exact q_iret C rfl dX1_heardReport_13 h
abbrev rmX1_dateOn : Room := { frames := 0, cells := 0, slots := 0, locals := 0 }
theorem hyX1_dateOn : yX1_dateOn.cls = RX1 ∧ yX1_dateOn.cls ≠ "java/lang/invoke/MethodHandle" ∧ yX1_dateOn.cls ≠ "java/lang/invoke/VarHandle" ∧ (parseMethodDescriptor yX1_dateOn.desc).map (fun d => d.parameters.length) = some 2 := by decide +kernel
theorem nX1_dateOn_X1 : ∀ w ∈ u_ws RX1 TX1 10, w ∈ wsX1_dateOn := by decide +kernel
theorem hX1_dateOn_22 : Cond.fieldLink RX1 22 (TX1 6).1 (TX1 6).2.1 (TX1 6).2.2.1 ∈ wsX1_dateOn := by decide +kernel
theorem hX1_dateOn_11 : Cond.fieldLink RX1 11 (TX1 3).1 (TX1 3).2.1 (TX1 3).2.2.1 ∈ wsX1_dateOn := by decide +kernel
def fX1_dateOn_L (a1 : Int32) (a2 : Int32) : Nat → Int32 → St → Option (Int32 × St)
  | 0, _, _ => none
  | n + 1, v3, σ => if v3 < (0 : Int32) then (some ((-1 : Int32), σ)) else (qix a1 6 (qix v3 15 (qlet (σ.1 (38 + a1.toNatClampNeg) v3.toNatClampNeg) (fun x19 => if a2 < x19 then (qlet (v3 + (-1 : Int32)) (fun x39 => fX1_dateOn_L a1 a2 n x39 σ)) else (some ((((((100 : Int32) * v3) + a2) - x19) + (1 : Int32)), σ))))))
def fX1_dateOn (σ : St) (a1 : Int32) (a2 : Int32) : Option (Int32 × St) := qix a1 6 (qlet (σ.1 58 a1.toNatClampNeg) (fun x6 => fX1_dateOn_L a1 a2 100000 x6 σ))
set_option maxHeartbeats 4000000 in
set_option maxRecDepth 100000 in
theorem kX1_dateOn_L {ad : Nat → Nat} {cy : Nat → ClassId} {X : va_W} {A : Nat → Prop} {D : va_G} {zs : Nat × Nat × Option Nat} {p : Program} {l : Launch} {e : Env} {s : State} {m : MethodId} {args : Array Value} {below : List Frame} {meth : Method} {c : Code} {a1 : Int32} {a2 : Int32} (C : qC ceC 96 ad cy X A D zs cX1_dateOn 5 RX1 wsX1_dateOn p s m args meth c (some .int)) (r0 : Int32) (σ0 : St) (n : Nat) : (∀ (v3 : Int32) (σ : St), fX1_dateOn_L a1 a2 n v3 σ = some (r0, σ0) → qVi ceC 96 ad cy X A D p l e (headSpec wsX1_dateOn rmX1_dateOn).room s m args below meth c 5 r0 σ0 7 [(0, .ref (ad 36)), (1, .int a1), (2, .int a2), (3, .int v3)] [] σ) := by
  induction n with
  | zero =>
    intro v3 σ h; cases h
  | succ n ih =>
    intro v3 σ h
    rw [fX1_dateOn_L] at h
    refine q_iload_n C dX1_dateOn_7 rfl 3 rfl ?_
    refine q_if_lt C (tgt := 45) dX1_dateOn_8 (by decide) h (fun h => ?_) (fun h => ?_)
    · refine q_iconst C (v := -1) dX1_dateOn_45 (by decide) ?_
      exact q_iret C rfl dX1_dateOn_46 h
    · refine q_aload_n C dX1_dateOn_11 rfl 0 rfl ?_
      refine q_get C (Cn := RX1) (T := TX1) (Nf := 10) (ci := 1) (id := 36) (k := 3) (v := .ref (ad 37)) nX1_dateOn_X1 (by decide) (ceC_36 ad cy _ _ _) rfl (by decide) rfl hX1_dateOn_11 dX1_dateOn_12 ?_
      refine q_iload_n C dX1_dateOn_15 rfl 1 rfl ?_
      refine q_aald C (id := 37) (t0 := 6) (by decide) (ceC_37 ad cy _ _ _) rfl rfl dX1_dateOn_16 h (fun _ => rfl) (fun hr16 h => ?_)
      refine q_iload_n C dX1_dateOn_17 rfl 3 rfl ?_
      refine q_iald C (id := (38 + a1.toNatClampNeg)) (by omega) (ceC_r38 ad cy _ _ _ hr16) dX1_dateOn_18 h (fun h => ?_)
      refine q_istoreL C dX1_dateOn_19 (by decide) h (lw := fun x19 => [(0, .ref (ad 36)), (1, .int a1), (2, .int a2), (3, .int v3), (4, .int x19)]) (fun _ => rfl) (fun x19 h => ?_)
      refine q_iload C dX1_dateOn_21 4 rfl ?_
      refine q_iload_n C dX1_dateOn_23 rfl 2 rfl ?_
      refine q_icmp_gt C (tgt := 39) dX1_dateOn_24 (by decide) h (fun h => ?_) (fun h => ?_)
      · refine q_iincL C dX1_dateOn_39 3 rfl (by decide) (nv := -1) (by decide) h (lw := fun x39 => [(0, .ref (ad 36)), (1, .int a1), (2, .int a2), (3, .int x39), (4, .int x19)]) (fun _ => rfl) (fun x39 h => ?_)
        refine q_goto C (tgt := 7) dX1_dateOn_42 (by decide) ?_
        exact q_sub [0, 1, 2, 3] rfl (ih x39 σ h)
      · refine q_bipush C (v := 100) dX1_dateOn_27 (by decide) ?_
        refine q_iload_n C dX1_dateOn_29 rfl 3 rfl ?_
        refine q_imul C dX1_dateOn_30 ?_
        refine q_iload_n C dX1_dateOn_31 rfl 2 rfl ?_
        refine q_iadd C dX1_dateOn_32 ?_
        refine q_iload C dX1_dateOn_33 4 rfl ?_
        refine q_isub C dX1_dateOn_35 ?_
        refine q_iconst C (v := 1) dX1_dateOn_36 (by decide) ?_
        refine q_iadd C dX1_dateOn_37 ?_
        exact q_iret C rfl dX1_dateOn_38 h
set_option maxHeartbeats 4000000 in
set_option maxRecDepth 100000 in
theorem kX1_dateOn (l : Launch) (D : va_G) (ad : Nat → Nat) (cy : Nat → ClassId) (X : va_W) (A : Nat → Prop) (zs : Nat × Nat × Option Nat) (σ : St) (a1 : Int32) (a2 : Int32) (r0 : Int32) (σ0 : St) (h : fX1_dateOn σ a1 a2 = some (r0, σ0)) : Met l yX1_dateOn wsX1_dateOn rmX1_dateOn (qPc ceC 96 ad cy X A D zs [.ref (ad 36), .int a1, .int a2] σ) (qQi ceC 96 ad cy X A D r0 σ0) 0 0 A := by
  refine Met.ofW (cc := cX1_dateOn) (maxL := 5) (ret := (some .int)) (by decide) rfl ?_
  intro p e s m args below meth c s₁ B hml hv
  obtain ⟨ha, hP, hK, hE, hD⟩ := hv
  have C : qC ceC 96 ad cy X A D zs cX1_dateOn 5 RX1 wsX1_dateOn p s m args meth c (some .int) := ⟨B.exec, B.bytes, hml, findClass_of_methodNamed B.named, atoms_spec (ws := wsX1_dateOn) B.pre, hK, hD, B.returns, B.notSynchronized, hE⟩
  rw [show entryFrame m args 5 = entryFrame m ([.ref (ad 36), .int a1, .int a2] : List Value).toArray 5 by rw [ha]]
  refine q_entry (A := A) (Nat.le_of_ble_eq_true rfl) hP (lv := [(0, .ref (ad 36)), (1, .int a1), (2, .int a2)]) rfl ?_
  unfold fX1_dateOn at h
  refine q_aload_n C dX1_dateOn_0 rfl 0 rfl ?_
  refine q_get C (Cn := RX1) (T := TX1) (Nf := 10) (ci := 1) (id := 36) (k := 6) (v := .ref (ad 58)) nX1_dateOn_X1 (by decide) (ceC_36 ad cy _ _ _) rfl (by decide) rfl hX1_dateOn_22 dX1_dateOn_1 ?_
  refine q_iload_n C dX1_dateOn_4 rfl 1 rfl ?_
  refine q_iald C (id := 58) (by decide) (ceC_58 ad cy _ _ _) dX1_dateOn_5 h (fun h => ?_)
  refine q_istore_nL C dX1_dateOn_6 rfl (by decide) h (lw := fun x6 => [(0, .ref (ad 36)), (1, .int a1), (2, .int a2), (3, .int x6)]) (fun _ => rfl) (fun x6 h => ?_)
  exact q_sub [0, 1, 2, 3] rfl ((kX1_dateOn_L C r0 σ0 100000) x6 σ h)
abbrev rmX5_isEvening : Room := { frames := 0, cells := 0, slots := 0, locals := 0 }
theorem hyX5_isEvening : yX5_isEvening.cls ≠ "java/lang/invoke/MethodHandle" ∧ yX5_isEvening.cls ≠ "java/lang/invoke/VarHandle" ∧ (parseMethodDescriptor yX5_isEvening.desc).map (fun d => d.parameters.length) = some 1 := by decide +kernel
def fX5_isEvening (σ : St) (a0 : Int32) : Option (Int32 × St) := qlet (fun (y16 : Int32) => (qzz y16 (some (y16, σ)))) (fun j16 => (qlet (fun (y15 : Unit) => (j16 (0 : Int32))) (fun j15 => (if a0 < (0 : Int32) then (j15 ()) else (if (400 : Int32) ≤ a0 then (j15 ()) else (j16 (1 : Int32)))))))
set_option maxHeartbeats 4000000 in
set_option maxRecDepth 100000 in
theorem kX5_isEvening (l : Launch) (D : va_G) (ad : Nat → Nat) (cy : Nat → ClassId) (X : va_W) (A : Nat → Prop) (zs : Nat × Nat × Option Nat) (σ : St) (a0 : Int32) (r0 : Int32) (σ0 : St) (h : fX5_isEvening σ a0 = some (r0, σ0)) : Met l yX5_isEvening wsX5_isEvening rmX5_isEvening (qPc ceC 96 ad cy X A D zs [.int a0] σ) (qQi ceC 96 ad cy X A D r0 σ0) 0 0 A := by
  refine Met.ofW (cc := cX5_isEvening) (maxL := 1) (ret := (some .boolean)) (by decide) rfl ?_
  intro p e s m args below meth c s₁ B hml hv
  obtain ⟨ha, hP, hK, hE, hD⟩ := hv
  have C : qC ceC 96 ad cy X A D zs cX5_isEvening 1 RX5 wsX5_isEvening p s m args meth c (some .boolean) := ⟨B.exec, B.bytes, hml, findClass_of_methodNamed B.named, atoms_spec (ws := wsX5_isEvening) B.pre, hK, hD, B.returns, B.notSynchronized, hE⟩
  rw [show entryFrame m args 1 = entryFrame m ([.int a0] : List Value).toArray 1 by rw [ha]]
  refine q_entry (A := A) (Nat.le_of_ble_eq_true rfl) hP (lv := [(0, .int a0)]) rfl ?_
  unfold fX5_isEvening at h
  refine q_iload_n C dX5_isEvening_0 rfl 0 rfl ?_
  refine q_join (G := fun (y16 : Int32) => qVi ceC 96 ad cy X A D p l e (headSpec wsX5_isEvening rmX5_isEvening).room s m args below meth c 1 r0 σ0 16 [] [.int y16] σ) h (fun y16 h => ?_) (fun j16 hj16 h => ?_)
  · exact q_zret C rfl dX5_isEvening_16 h
  refine q_join (G := fun (y15 : Unit) => qVi ceC 96 ad cy X A D p l e (headSpec wsX5_isEvening rmX5_isEvening).room s m args below meth c 1 r0 σ0 15 [] [] σ) h (fun y15 h => ?_) (fun j15 hj15 h => ?_)
  · refine q_iconst C (v := 0) dX5_isEvening_15 (by decide) ?_
    exact q_sub [] rfl (hj16 (0 : Int32) h)
  refine q_if_lt C (tgt := 15) dX5_isEvening_1 (by decide) h (fun h => ?_) (fun h => ?_)
  · exact q_sub [] rfl (hj15 () h)
  · refine q_iload_n C dX5_isEvening_4 rfl 0 rfl ?_
    refine q_sipush C (v := 400) dX5_isEvening_5 (by decide) ?_
    refine q_icmp_ge C (tgt := 15) dX5_isEvening_8 (by decide) h (fun h => ?_) (fun h => ?_)
    · exact q_sub [] rfl (hj15 () h)
    · refine q_iconst C (v := 1) dX5_isEvening_11 (by decide) ?_
      refine q_goto C (tgt := 16) dX5_isEvening_12 (by decide) ?_
      exact q_sub [] rfl (hj16 (1 : Int32) h)
abbrev rmX1_eveningOf : Room := { frames := 1, cells := 0, slots := 0, locals := 20 }
theorem hyX1_eveningOf : yX1_eveningOf.cls = RX1 ∧ yX1_eveningOf.cls ≠ "java/lang/invoke/MethodHandle" ∧ yX1_eveningOf.cls ≠ "java/lang/invoke/VarHandle" ∧ (parseMethodDescriptor yX1_eveningOf.desc).map (fun d => d.parameters.length) = some 3 := by decide +kernel
theorem nX1_eveningOf_X1 : ∀ w ∈ u_ws RX1 TX1 10, w ∈ wsX1_eveningOf := by decide +kernel
theorem hX1_eveningOf_11 : Cond.fieldLink RX1 11 (TX1 3).1 (TX1 3).2.1 (TX1 3).2.2.1 ∈ wsX1_eveningOf := by decide +kernel
theorem hX1_eveningOf_134i : Cond.initialized yX5_isEvening.cls ∈ wsX1_eveningOf := by decide +kernel
theorem hX1_eveningOf_134s : Cond.static yX5_isEvening ∈ wsX1_eveningOf := by decide +kernel
theorem hX1_eveningOf_22 : Cond.fieldLink RX1 22 (TX1 6).1 (TX1 6).2.1 (TX1 6).2.2.1 ∈ wsX1_eveningOf := by decide +kernel
def fX1_eveningOf (σ : St) (a1 : Int32) (a2 : Int32) (a3 : Int32) : Option (Int32 × St) := qix a1 6 (qix a2 15 (if (σ.1 (38 + a1.toNatClampNeg) a2.toNatClampNeg) = (-1 : Int32) then (some ((-1 : Int32), σ)) else (qix a1 6 (qix a2 15 (qlet (((σ.1 (38 + a1.toNatClampNeg) a2.toNatClampNeg) + a3) - (1 : Int32)) (fun x26 => qcall (fX5_isEvening σ x26) (fun r30 σ30 => if r30 = (0 : Int32) then (some ((-1 : Int32), σ30)) else (qix a1 6 (qlet (fun (y68 : Int32) => (qlet (fun (y81 : Int32) => (some (y81, σ30))) (fun j81 => (if y68 = (0 : Int32) then (j81 x26) else (j81 (-1 : Int32)))))) (fun j68 => (qlet (fun (y67 : Unit) => (j68 (0 : Int32))) (fun j67 => (if (σ30.1 58 a1.toNatClampNeg) ≤ a2 then (j67 ()) else (qix a1 6 (qix (a2 + (1 : Int32)) 15 (if x26 < (σ30.1 (38 + a1.toNatClampNeg) (a2 + (1 : Int32)).toNatClampNeg) then (j67 ()) else (j68 (1 : Int32))))))))))))))))))
set_option maxHeartbeats 4000000 in
set_option maxRecDepth 100000 in
theorem kX1_eveningOf (l : Launch) (D : va_G) (ad : Nat → Nat) (cy : Nat → ClassId) (X : va_W) (A : Nat → Prop) (zs : Nat × Nat × Option Nat) (σ : St) (a1 : Int32) (a2 : Int32) (a3 : Int32) (r0 : Int32) (σ0 : St) (h : fX1_eveningOf σ a1 a2 a3 = some (r0, σ0)) : Met l yX1_eveningOf wsX1_eveningOf rmX1_eveningOf (qPc ceC 96 ad cy X A D zs [.ref (ad 36), .int a1, .int a2, .int a3] σ) (qQi ceC 96 ad cy X A D r0 σ0) 0 0 A := by
  refine Met.ofW (cc := cX1_eveningOf) (maxL := 6) (ret := (some .int)) (by decide) rfl ?_
  intro p e s m args below meth c s₁ B hml hv
  obtain ⟨ha, hP, hK, hE, hD⟩ := hv
  have C : qC ceC 96 ad cy X A D zs cX1_eveningOf 6 RX1 wsX1_eveningOf p s m args meth c (some .int) := ⟨B.exec, B.bytes, hml, findClass_of_methodNamed B.named, atoms_spec (ws := wsX1_eveningOf) B.pre, hK, hD, B.returns, B.notSynchronized, hE⟩
  rw [show entryFrame m args 6 = entryFrame m ([.ref (ad 36), .int a1, .int a2, .int a3] : List Value).toArray 6 by rw [ha]]
  refine q_entry (A := A) (Nat.le_of_ble_eq_true rfl) hP (lv := [(0, .ref (ad 36)), (1, .int a1), (2, .int a2), (3, .int a3)]) rfl ?_
  unfold fX1_eveningOf at h
  refine q_aload_n C dX1_eveningOf_0 rfl 0 rfl ?_
  refine q_get C (Cn := RX1) (T := TX1) (Nf := 10) (ci := 1) (id := 36) (k := 3) (v := .ref (ad 37)) nX1_eveningOf_X1 (by decide) (ceC_36 ad cy _ _ _) rfl (by decide) rfl hX1_eveningOf_11 dX1_eveningOf_1 ?_
  refine q_iload_n C dX1_eveningOf_4 rfl 1 rfl ?_
  refine q_aald C (id := 37) (t0 := 6) (by decide) (ceC_37 ad cy _ _ _) rfl rfl dX1_eveningOf_5 h (fun _ => rfl) (fun hr5 h => ?_)
  refine q_iload_n C dX1_eveningOf_6 rfl 2 rfl ?_
  refine q_iald C (id := (38 + a1.toNatClampNeg)) (by omega) (ceC_r38 ad cy _ _ _ hr5) dX1_eveningOf_7 h (fun h => ?_)
  refine q_iconst C (v := -1) dX1_eveningOf_8 (by decide) ?_
  refine q_icmp_ne C (tgt := 14) dX1_eveningOf_9 (by decide) h (fun h => ?_) (fun h => ?_)
  · refine q_aload_n C dX1_eveningOf_14 rfl 0 rfl ?_
    refine q_get C (Cn := RX1) (T := TX1) (Nf := 10) (ci := 1) (id := 36) (k := 3) (v := .ref (ad 37)) nX1_eveningOf_X1 (by decide) (ceC_36 ad cy _ _ _) rfl (by decide) rfl hX1_eveningOf_11 dX1_eveningOf_15 ?_
    refine q_iload_n C dX1_eveningOf_18 rfl 1 rfl ?_
    refine q_aald C (id := 37) (t0 := 6) (by decide) (ceC_37 ad cy _ _ _) rfl rfl dX1_eveningOf_19 h (fun _ => rfl) (fun hr19 h => ?_)
    refine q_iload_n C dX1_eveningOf_20 rfl 2 rfl ?_
    refine q_iald C (id := (38 + a1.toNatClampNeg)) (by omega) (ceC_r38 ad cy _ _ _ hr19) dX1_eveningOf_21 h (fun h => ?_)
    refine q_iload_n C dX1_eveningOf_22 rfl 3 rfl ?_
    refine q_iadd C dX1_eveningOf_23 ?_
    refine q_iconst C (v := 1) dX1_eveningOf_24 (by decide) ?_
    refine q_isub C dX1_eveningOf_25 ?_
    refine q_istoreL C dX1_eveningOf_26 (by decide) h (lw := fun x26 => [(0, .ref (ad 36)), (1, .int a1), (2, .int a2), (3, .int a3), (4, .int x26)]) (fun _ => rfl) (fun x26 h => ?_)
    refine q_iload C dX1_eveningOf_28 4 rfl ?_
    refine q_callSNi C (rm := rmX5_isEvening) (As := [.int x26]) (rest := []) (fun r9 σ9 h9 => kX5_isEvening l D ad cy X A zs σ x26 r9 σ9 h9) ggX1_eveningOf_X5_isEvening (C.2.2.2.2.2.2.2.2.2).1 hX1_eveningOf_134i hX1_eveningOf_134s rfl rfl rfl hyX5_isEvening ⟨Nat.le_of_ble_eq_true rfl, Nat.le_of_ble_eq_true rfl⟩ rfl rfl (Nat.le_of_ble_eq_true rfl) dX1_eveningOf_30 ⟨Nat.zero_le _, Nat.zero_le _⟩ h (fun r30 σ30 h => ?_)
    refine q_if_ne C (tgt := 38) dX1_eveningOf_33 (by decide) h (fun h => ?_) (fun h => ?_)
    · refine q_iload_n C dX1_eveningOf_38 rfl 2 rfl ?_
      refine q_aload_n C dX1_eveningOf_39 rfl 0 rfl ?_
      refine q_get C (Cn := RX1) (T := TX1) (Nf := 10) (ci := 1) (id := 36) (k := 6) (v := .ref (ad 58)) nX1_eveningOf_X1 (by decide) (ceC_36 ad cy _ _ _) rfl (by decide) rfl hX1_eveningOf_22 dX1_eveningOf_40 ?_
      refine q_iload_n C dX1_eveningOf_43 rfl 1 rfl ?_
      refine q_iald C (id := 58) (by decide) (ceC_58 ad cy _ _ _) dX1_eveningOf_44 h (fun h => ?_)
      refine q_join (G := fun (y68 : Int32) => qVi ceC 96 ad cy X A D p l e (headSpec wsX1_eveningOf rmX1_eveningOf).room s m args below meth c 6 r0 σ0 68 [(4, .int x26)] [.int y68] σ30) h (fun y68 h => ?_) (fun j68 hj68 h => ?_)
      · refine q_istore C dX1_eveningOf_68 (by decide) (lv' := [(4, .int x26), (5, .int y68)]) rfl ?_
        refine q_iload C dX1_eveningOf_70 1 rfl ?_
        refine q_join (G := fun (y81 : Int32) => qVi ceC 96 ad cy X A D p l e (headSpec wsX1_eveningOf rmX1_eveningOf).room s m args below meth c 6 r0 σ0 81 [] [.int y81] σ30) h (fun y81 h => ?_) (fun j81 hj81 h => ?_)
        · exact q_iret C rfl dX1_eveningOf_81 h
        refine q_if_eq C (tgt := 79) dX1_eveningOf_72 (by decide) h (fun h => ?_) (fun h => ?_)
        · refine q_iload C dX1_eveningOf_79 0 rfl ?_
          exact q_sub [] rfl (hj81 x26 h)
        · refine q_iconst C (v := -1) dX1_eveningOf_75 (by decide) ?_
          refine q_goto C (tgt := 81) dX1_eveningOf_76 (by decide) ?_
          exact q_sub [] rfl (hj81 (-1 : Int32) h)
      refine q_join (G := fun (y67 : Unit) => qVi ceC 96 ad cy X A D p l e (headSpec wsX1_eveningOf rmX1_eveningOf).room s m args below meth c 6 r0 σ0 67 [(4, .int x26)] [] σ30) h (fun y67 h => ?_) (fun j67 hj67 h => ?_)
      · refine q_iconst C (v := 0) dX1_eveningOf_67 (by decide) ?_
        exact q_sub [0] rfl (hj68 (0 : Int32) h)
      refine q_icmp_ge C (tgt := 67) dX1_eveningOf_45 (by decide) h (fun h => ?_) (fun h => ?_)
      · exact q_sub [4] rfl (hj67 () h)
      · refine q_iload C dX1_eveningOf_48 4 rfl ?_
        refine q_aload_n C dX1_eveningOf_50 rfl 0 rfl ?_
        refine q_get C (Cn := RX1) (T := TX1) (Nf := 10) (ci := 1) (id := 36) (k := 3) (v := .ref (ad 37)) nX1_eveningOf_X1 (by decide) (ceC_36 ad cy _ _ _) rfl (by decide) rfl hX1_eveningOf_11 dX1_eveningOf_51 ?_
        refine q_iload_n C dX1_eveningOf_54 rfl 1 rfl ?_
        refine q_aald C (id := 37) (t0 := 6) (by decide) (ceC_37 ad cy _ _ _) rfl rfl dX1_eveningOf_55 h (fun _ => rfl) (fun hr55 h => ?_)
        refine q_iload_n C dX1_eveningOf_56 rfl 2 rfl ?_
        refine q_iconst C (v := 1) dX1_eveningOf_57 (by decide) ?_
        refine q_iadd C dX1_eveningOf_58 ?_
        refine q_iald C (id := (38 + a1.toNatClampNeg)) (by omega) (ceC_r38 ad cy _ _ _ hr55) dX1_eveningOf_59 h (fun h => ?_)
        refine q_icmp_lt C (tgt := 67) dX1_eveningOf_60 (by decide) h (fun h => ?_) (fun h => ?_)
        · exact q_sub [4] rfl (hj67 () h)
        · refine q_iconst C (v := 1) dX1_eveningOf_63 (by decide) ?_
          refine q_goto C (tgt := 68) dX1_eveningOf_64 (by decide) ?_
          exact q_sub [4] rfl (hj68 (1 : Int32) h)
    · refine q_iconst C (v := -1) dX1_eveningOf_36 (by decide) ?_
      exact q_iret C rfl dX1_eveningOf_37 h
  · refine q_iconst C (v := -1) dX1_eveningOf_12 (by decide) ?_
    exact q_iret C rfl dX1_eveningOf_13 h
