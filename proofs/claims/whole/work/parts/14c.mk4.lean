def WX4 (cy : Nat → ClassId) (h0 : Nat) (u : Nat → Nat) : va_W := [(h0, .inr (4, [.ref (u 1), .ref (u 2), .ref (u 3), .ref (u 4), .ref (u 11), .ref (u 12), .int 0, .int 0])), ((u 1), .inl (cy 1, 14, .inl (fun _ => 0))), ((u 2), .inl (cy 1, 6, .inl (fun _ => 0))), ((u 3), .inl (cy 1, 6, .inl (fun _ => 0))), ((u 4), .inl (cy 5, 6, .inr (.inr (.inr (.inr (aaF (fun i => u (5 + i)))))))), ((u 5), .inl (cy 0, 60, .inl (fun _ => 0))), ((u 6), .inl (cy 0, 60, .inl (fun _ => 0))), ((u 7), .inl (cy 0, 60, .inl (fun _ => 0))), ((u 8), .inl (cy 0, 60, .inl (fun _ => 0))), ((u 9), .inl (cy 0, 60, .inl (fun _ => 0))), ((u 10), .inl (cy 0, 60, .inl (fun _ => 0))), ((u 11), .inl (cy 1, 6, .inl (fun _ => 0))), ((u 12), .inl (cy 6, 6, .inr (.inr (.inr (.inr (aaF (fun i => u (13 + i)))))))), ((u 13), .inl (cy 1, 6, .inl (upd (upd (upd (upd (upd (upd (fun _ => 0) 0 0) 1 1000000) 2 1000000) 3 1000000) 4 1000000) 5 1000000))), ((u 14), .inl (cy 1, 6, .inl (upd (upd (upd (upd (upd (upd (fun _ => 0) 0 1000000) 1 0) 2 1000000) 3 1000000) 4 1000000) 5 1000000))), ((u 15), .inl (cy 1, 6, .inl (upd (upd (upd (upd (upd (upd (fun _ => 0) 0 1000000) 1 1000000) 2 0) 3 1000000) 4 1000000) 5 1000000))), ((u 16), .inl (cy 1, 6, .inl (upd (upd (upd (upd (upd (upd (fun _ => 0) 0 1000000) 1 1000000) 2 1000000) 3 0) 4 1000000) 5 1000000))), ((u 17), .inl (cy 1, 6, .inl (upd (upd (upd (upd (upd (upd (fun _ => 0) 0 1000000) 1 1000000) 2 1000000) 3 1000000) 4 0) 5 1000000))), ((u 18), .inl (cy 1, 6, .inl (upd (upd (upd (upd (upd (upd (fun _ => 0) 0 1000000) 1 1000000) 2 1000000) 3 1000000) 4 1000000) 5 0)))]
abbrev rmX4_init : Room := { frames := 1, cells := 18, slots := 440, locals := 24 }
theorem hyX4_init : yX4_init.cls ≠ "java/lang/invoke/MethodHandle" ∧ yX4_init.cls ≠ "java/lang/invoke/VarHandle" ∧ (parseMethodDescriptor yX4_init.desc).map (fun d => d.parameters.length) = some 0 := by decide +kernel
theorem nX4_init_X4 : ∀ w ∈ u_ws RX4 TX4 8, w ∈ wsX4_init := by decide +kernel
theorem hX4_init_3 : Cond.methodLink RX4 3 objectInit ∈ wsX4_init := by decide +kernel
theorem hX4_init_oi : Cond.instanceMethod objectInit ∈ wsX4_init := by decide +kernel
theorem hX4_init_oc : Cond.code objectInit ⟨#[0xb1]⟩ 1 none ∈ wsX4_init := by decide +kernel
theorem haX4_init_int : Cond.arrayClass .int ∈ wsX4_init := by decide +kernel
theorem hX4_init_9 : Cond.fieldLink RX4 9 (TX4 0).1 (TX4 0).2.1 (TX4 0).2.2.1 ∈ wsX4_init := by decide +kernel
theorem hX4_init_15 : Cond.fieldLink RX4 15 (TX4 1).1 (TX4 1).2.1 (TX4 1).2.2.1 ∈ wsX4_init := by decide +kernel
theorem hX4_init_18 : Cond.fieldLink RX4 18 (TX4 2).1 (TX4 2).2.1 (TX4 2).2.2.1 ∈ wsX4_init := by decide +kernel
theorem hX4_init_21 : Cond.classLink RX4 21 ("[" ++ (FieldType.array .byte).toString) ∈ wsX4_init := by decide +kernel
theorem haX4_init_byte : Cond.arrayClass .byte ∈ wsX4_init := by decide +kernel
theorem hX4_init_23 : Cond.fieldLink RX4 23 (TX4 3).1 (TX4 3).2.1 (TX4 3).2.2.1 ∈ wsX4_init := by decide +kernel
theorem hX4_init_26 : Cond.fieldLink RX4 26 (TX4 4).1 (TX4 4).2.1 (TX4 4).2.2.1 ∈ wsX4_init := by decide +kernel
theorem hX4_init_29 : Cond.classLink RX4 29 ("[" ++ (FieldType.array .int).toString) ∈ wsX4_init := by decide +kernel
theorem hX4_init_31 : Cond.fieldLink RX4 31 (TX4 5).1 (TX4 5).2.1 (TX4 5).2.2.1 ∈ wsX4_init := by decide +kernel
theorem hX4_init_34 : Cond.fieldLink RX4 34 (TX4 6).1 (TX4 6).2.1 (TX4 6).2.2.1 ∈ wsX4_init := by decide +kernel
theorem hX4_init_38 : Cond.fieldLink RX4 38 (TX4 7).1 (TX4 7).2.1 (TX4 7).2.2.1 ∈ wsX4_init := by decide +kernel
theorem hX4_init_41 : Cond.constant RX4 41 (1000000) ∈ wsX4_init := by decide +kernel
set_option maxHeartbeats 8000000 in
set_option maxRecDepth 100000 in
theorem mX4_init (l : Launch) (D : va_G) (cy : Nat → ClassId) (X : va_W) (A : Nat → Prop) (zs : Nat × Nat × Option Nat) (h0 : Nat) : Met l yX4_init wsX4_init rmX4_init (iPc cy [(h0, .inr (4, [.null, .null, .null, .null, .null, .null, .int 0, .int 0]))] X A D zs [.ref h0]) (iQ (WX4 cy h0) X A D) 18 440 A := by
  refine Met.ofW (cc := cX4_init) (maxL := 3) (ret := none) (by decide) rfl ?_
  intro p e s m args below meth c s₁ B hml hv
  obtain ⟨ha, hP, hK, hE, hD, hA, hI⟩ := hv
  have hini : meth.name = "<init>" := (name_of_methodNamed B.named B.method).1
  have C : qC ceC 0 (fun _ => 0) cy ([(h0, .inr (4, [.null, .null, .null, .null, .null, .null, .int 0, .int 0]))] ++ X) A D zs cX4_init 3 RX4 wsX4_init p s m args meth c none := ⟨B.exec, B.bytes, hml, findClass_of_methodNamed B.named, atoms_spec (ws := wsX4_init) B.pre, hK, fun _ => hD, B.returns, B.notSynchronized, hE⟩
  rw [show entryFrame m args 3 = entryFrame m ([.ref h0] : List Value).toArray 3 by rw [ha]]
  refine q_entry (ce := ceC) (N := 0) (ad := fun _ => 0) (cy := cy) (X := [(h0, .inr (4, [.null, .null, .null, .null, .null, .null, .int 0, .int 0]))] ++ X) (σ := iσ) (A := A) (Nat.le_of_ble_eq_true rfl) hP (lv := [(0, .ref h0)]) rfl ?_
  refine q_aload_n C dX4_init_0 rfl 0 rfl ?_
  refine i_objinit C hX4_init_3 hX4_init_oi hX4_init_oc dX4_init_1 (Nat.le_of_ble_eq_true rfl) (Nat.le_of_ble_eq_true rfl) ?_
  refine q_aload_n C dX4_init_4 rfl 0 rfl ?_
  refine q_bipush C (v := 14) dX4_init_5 (by decide) ?_
  refine i_newa C hA (t0 := 1) (cA := cy 1) rfl rfl (fun _ h => by cases h) haX4_init_int (N' := 14) (a0 := (14, .inl (fun _ => 0))) (fun _ => rfl) (by decide) (by decide) (by decide) (Nat.le_of_ble_eq_true rfl) (Nat.le_of_ble_eq_true rfl) dX4_init_7 (fun q7 C => ?_)
  refine i_putF C hini (Cn := RX4) (T := TX4) (ty0 := tyX4) (Nf := 8) (ci := 4) (k := 0) (v := .ref q7) tyX4_ok nmX4 nX4_init_X4 0 rfl rfl (by decide) rfl rfl (ty := .array .int) (by decide +kernel) rfl rfl (Nat.le_of_ble_eq_true rfl) hX4_init_9 dX4_init_9 (L' := [(h0, .inr (4, [.ref q7, .null, .null, .null, .null, .null, .int 0, .int 0])), (q7, .inl (cy 1, 14, .inl (fun _ => 0)))]) rfl (fun C => ?_)
  refine q_aload_n C dX4_init_12 rfl 0 rfl ?_
  refine q_bipush C (v := 6) dX4_init_13 (by decide) ?_
  refine i_newa C hA (t0 := 1) (cA := cy 1) rfl rfl (fun _ h => by cases h) haX4_init_int (N' := 6) (a0 := (6, .inl (fun _ => 0))) (fun _ => rfl) (by decide) (by decide) (by decide) (Nat.le_of_ble_eq_true rfl) (Nat.le_of_ble_eq_true rfl) dX4_init_15 (fun q15 C => ?_)
  refine i_putF C hini (Cn := RX4) (T := TX4) (ty0 := tyX4) (Nf := 8) (ci := 4) (k := 1) (v := .ref q15) tyX4_ok nmX4 nX4_init_X4 0 rfl rfl (by decide) rfl rfl (ty := .array .int) (by decide +kernel) rfl rfl (Nat.le_of_ble_eq_true rfl) hX4_init_15 dX4_init_17 (L' := [(h0, .inr (4, [.ref q7, .ref q15, .null, .null, .null, .null, .int 0, .int 0])), (q7, .inl (cy 1, 14, .inl (fun _ => 0))), (q15, .inl (cy 1, 6, .inl (fun _ => 0)))]) rfl (fun C => ?_)
  refine q_aload_n C dX4_init_20 rfl 0 rfl ?_
  refine q_bipush C (v := 6) dX4_init_21 (by decide) ?_
  refine i_newa C hA (t0 := 1) (cA := cy 1) rfl rfl (fun _ h => by cases h) haX4_init_int (N' := 6) (a0 := (6, .inl (fun _ => 0))) (fun _ => rfl) (by decide) (by decide) (by decide) (Nat.le_of_ble_eq_true rfl) (Nat.le_of_ble_eq_true rfl) dX4_init_23 (fun q23 C => ?_)
  refine i_putF C hini (Cn := RX4) (T := TX4) (ty0 := tyX4) (Nf := 8) (ci := 4) (k := 2) (v := .ref q23) tyX4_ok nmX4 nX4_init_X4 0 rfl rfl (by decide) rfl rfl (ty := .array .int) (by decide +kernel) rfl rfl (Nat.le_of_ble_eq_true rfl) hX4_init_18 dX4_init_25 (L' := [(h0, .inr (4, [.ref q7, .ref q15, .ref q23, .null, .null, .null, .int 0, .int 0])), (q7, .inl (cy 1, 14, .inl (fun _ => 0))), (q15, .inl (cy 1, 6, .inl (fun _ => 0))), (q23, .inl (cy 1, 6, .inl (fun _ => 0)))]) rfl (fun C => ?_)
  refine q_aload_n C dX4_init_28 rfl 0 rfl ?_
  refine q_bipush C (v := 6) dX4_init_29 (by decide) ?_
  refine q_bipush C (v := 60) dX4_init_31 (by decide) ?_
  refine i_mna C hA (t0 := 5) (t1 := 0) (cO := cy 5) (cI := cy 0) rfl rfl (fun h => h) hI.1 hX4_init_21 haX4_init_byte (K' := 60) (z := (60, .inl (fun _ => 0))) (by decide) (by decide) (by decide) (by decide) rfl rfl (Nat.le_of_ble_eq_true rfl) (Nat.le_of_ble_eq_true rfl) (fun _ => i_inner rfl) dX4_init_33 (fun q33 r33 C => ?_)
  refine i_putF C hini (Cn := RX4) (T := TX4) (ty0 := tyX4) (Nf := 8) (ci := 4) (k := 3) (v := .ref q33) tyX4_ok nmX4 nX4_init_X4 0 rfl rfl (by decide) rfl rfl (ty := .array (.array .byte)) (by decide +kernel) rfl rfl (Nat.le_of_ble_eq_true rfl) hX4_init_23 dX4_init_37 (L' := [(h0, .inr (4, [.ref q7, .ref q15, .ref q23, .ref q33, .null, .null, .int 0, .int 0])), (q7, .inl (cy 1, 14, .inl (fun _ => 0))), (q15, .inl (cy 1, 6, .inl (fun _ => 0))), (q23, .inl (cy 1, 6, .inl (fun _ => 0))), (q33, .inl (cy 5, 6, .inr (.inr (.inr (.inr (aaF r33)))))), ((r33 0), .inl (cy 0, 60, .inl (fun _ => 0))), ((r33 1), .inl (cy 0, 60, .inl (fun _ => 0))), ((r33 2), .inl (cy 0, 60, .inl (fun _ => 0))), ((r33 3), .inl (cy 0, 60, .inl (fun _ => 0))), ((r33 4), .inl (cy 0, 60, .inl (fun _ => 0))), ((r33 5), .inl (cy 0, 60, .inl (fun _ => 0)))]) rfl (fun C => ?_)
  refine q_aload_n C dX4_init_40 rfl 0 rfl ?_
  refine q_bipush C (v := 6) dX4_init_41 (by decide) ?_
  refine i_newa C hA (t0 := 1) (cA := cy 1) rfl rfl (fun _ h => by cases h) haX4_init_int (N' := 6) (a0 := (6, .inl (fun _ => 0))) (fun _ => rfl) (by decide) (by decide) (by decide) (Nat.le_of_ble_eq_true rfl) (Nat.le_of_ble_eq_true rfl) dX4_init_43 (fun q43 C => ?_)
  refine i_putF C hini (Cn := RX4) (T := TX4) (ty0 := tyX4) (Nf := 8) (ci := 4) (k := 4) (v := .ref q43) tyX4_ok nmX4 nX4_init_X4 0 rfl rfl (by decide) rfl rfl (ty := .array .int) (by decide +kernel) rfl rfl (Nat.le_of_ble_eq_true rfl) hX4_init_26 dX4_init_45 (L' := [(h0, .inr (4, [.ref q7, .ref q15, .ref q23, .ref q33, .ref q43, .null, .int 0, .int 0])), (q7, .inl (cy 1, 14, .inl (fun _ => 0))), (q15, .inl (cy 1, 6, .inl (fun _ => 0))), (q23, .inl (cy 1, 6, .inl (fun _ => 0))), (q33, .inl (cy 5, 6, .inr (.inr (.inr (.inr (aaF r33)))))), ((r33 0), .inl (cy 0, 60, .inl (fun _ => 0))), ((r33 1), .inl (cy 0, 60, .inl (fun _ => 0))), ((r33 2), .inl (cy 0, 60, .inl (fun _ => 0))), ((r33 3), .inl (cy 0, 60, .inl (fun _ => 0))), ((r33 4), .inl (cy 0, 60, .inl (fun _ => 0))), ((r33 5), .inl (cy 0, 60, .inl (fun _ => 0))), (q43, .inl (cy 1, 6, .inl (fun _ => 0)))]) rfl (fun C => ?_)
  refine q_aload_n C dX4_init_48 rfl 0 rfl ?_
  refine q_bipush C (v := 6) dX4_init_49 (by decide) ?_
  refine q_bipush C (v := 6) dX4_init_51 (by decide) ?_
  refine i_mna C hA (t0 := 6) (t1 := 1) (cO := cy 6) (cI := cy 1) rfl rfl (fun h => h) hI.2.1 hX4_init_29 haX4_init_int (K' := 6) (z := (6, .inl (fun _ => 0))) (by decide) (by decide) (by decide) (by decide) rfl rfl (Nat.le_of_ble_eq_true rfl) (Nat.le_of_ble_eq_true rfl) (fun _ => i_inner rfl) dX4_init_53 (fun q53 r53 C => ?_)
  refine i_putF C hini (Cn := RX4) (T := TX4) (ty0 := tyX4) (Nf := 8) (ci := 4) (k := 5) (v := .ref q53) tyX4_ok nmX4 nX4_init_X4 0 rfl rfl (by decide) rfl rfl (ty := .array (.array .int)) (by decide +kernel) rfl rfl (Nat.le_of_ble_eq_true rfl) hX4_init_31 dX4_init_57 (L' := [(h0, .inr (4, [.ref q7, .ref q15, .ref q23, .ref q33, .ref q43, .ref q53, .int 0, .int 0])), (q7, .inl (cy 1, 14, .inl (fun _ => 0))), (q15, .inl (cy 1, 6, .inl (fun _ => 0))), (q23, .inl (cy 1, 6, .inl (fun _ => 0))), (q33, .inl (cy 5, 6, .inr (.inr (.inr (.inr (aaF r33)))))), ((r33 0), .inl (cy 0, 60, .inl (fun _ => 0))), ((r33 1), .inl (cy 0, 60, .inl (fun _ => 0))), ((r33 2), .inl (cy 0, 60, .inl (fun _ => 0))), ((r33 3), .inl (cy 0, 60, .inl (fun _ => 0))), ((r33 4), .inl (cy 0, 60, .inl (fun _ => 0))), ((r33 5), .inl (cy 0, 60, .inl (fun _ => 0))), (q43, .inl (cy 1, 6, .inl (fun _ => 0))), (q53, .inl (cy 6, 6, .inr (.inr (.inr (.inr (aaF r53)))))), ((r53 0), .inl (cy 1, 6, .inl (fun _ => 0))), ((r53 1), .inl (cy 1, 6, .inl (fun _ => 0))), ((r53 2), .inl (cy 1, 6, .inl (fun _ => 0))), ((r53 3), .inl (cy 1, 6, .inl (fun _ => 0))), ((r53 4), .inl (cy 1, 6, .inl (fun _ => 0))), ((r53 5), .inl (cy 1, 6, .inl (fun _ => 0)))]) rfl (fun C => ?_)
  refine q_aload_n C dX4_init_60 rfl 0 rfl ?_
  refine q_iconst C (v := 0) dX4_init_61 (by decide) ?_
  refine i_put C (Cn := RX4) (T := TX4) (ty0 := tyX4) (Nf := 8) (ci := 4) (k := 6) (v := .int 0) tyX4_ok nmX4 nX4_init_X4 0 rfl rfl (by decide) rfl (ty := .int) (by decide +kernel) rfl rfl (Nat.le_of_ble_eq_true rfl) hX4_init_34 dX4_init_62 (L' := [(h0, .inr (4, [.ref q7, .ref q15, .ref q23, .ref q33, .ref q43, .ref q53, .int 0, .int 0])), (q7, .inl (cy 1, 14, .inl (fun _ => 0))), (q15, .inl (cy 1, 6, .inl (fun _ => 0))), (q23, .inl (cy 1, 6, .inl (fun _ => 0))), (q33, .inl (cy 5, 6, .inr (.inr (.inr (.inr (aaF r33)))))), ((r33 0), .inl (cy 0, 60, .inl (fun _ => 0))), ((r33 1), .inl (cy 0, 60, .inl (fun _ => 0))), ((r33 2), .inl (cy 0, 60, .inl (fun _ => 0))), ((r33 3), .inl (cy 0, 60, .inl (fun _ => 0))), ((r33 4), .inl (cy 0, 60, .inl (fun _ => 0))), ((r33 5), .inl (cy 0, 60, .inl (fun _ => 0))), (q43, .inl (cy 1, 6, .inl (fun _ => 0))), (q53, .inl (cy 6, 6, .inr (.inr (.inr (.inr (aaF r53)))))), ((r53 0), .inl (cy 1, 6, .inl (fun _ => 0))), ((r53 1), .inl (cy 1, 6, .inl (fun _ => 0))), ((r53 2), .inl (cy 1, 6, .inl (fun _ => 0))), ((r53 3), .inl (cy 1, 6, .inl (fun _ => 0))), ((r53 4), .inl (cy 1, 6, .inl (fun _ => 0))), ((r53 5), .inl (cy 1, 6, .inl (fun _ => 0)))]) rfl (fun C => ?_)
  refine q_aload_n C dX4_init_65 rfl 0 rfl ?_
  refine q_iconst C (v := 0) dX4_init_66 (by decide) ?_
  refine i_put C (Cn := RX4) (T := TX4) (ty0 := tyX4) (Nf := 8) (ci := 4) (k := 7) (v := .int 0) tyX4_ok nmX4 nX4_init_X4 0 rfl rfl (by decide) rfl (ty := .int) (by decide +kernel) rfl rfl (Nat.le_of_ble_eq_true rfl) hX4_init_38 dX4_init_67 (L' := [(h0, .inr (4, [.ref q7, .ref q15, .ref q23, .ref q33, .ref q43, .ref q53, .int 0, .int 0])), (q7, .inl (cy 1, 14, .inl (fun _ => 0))), (q15, .inl (cy 1, 6, .inl (fun _ => 0))), (q23, .inl (cy 1, 6, .inl (fun _ => 0))), (q33, .inl (cy 5, 6, .inr (.inr (.inr (.inr (aaF r33)))))), ((r33 0), .inl (cy 0, 60, .inl (fun _ => 0))), ((r33 1), .inl (cy 0, 60, .inl (fun _ => 0))), ((r33 2), .inl (cy 0, 60, .inl (fun _ => 0))), ((r33 3), .inl (cy 0, 60, .inl (fun _ => 0))), ((r33 4), .inl (cy 0, 60, .inl (fun _ => 0))), ((r33 5), .inl (cy 0, 60, .inl (fun _ => 0))), (q43, .inl (cy 1, 6, .inl (fun _ => 0))), (q53, .inl (cy 6, 6, .inr (.inr (.inr (.inr (aaF r53)))))), ((r53 0), .inl (cy 1, 6, .inl (fun _ => 0))), ((r53 1), .inl (cy 1, 6, .inl (fun _ => 0))), ((r53 2), .inl (cy 1, 6, .inl (fun _ => 0))), ((r53 3), .inl (cy 1, 6, .inl (fun _ => 0))), ((r53 4), .inl (cy 1, 6, .inl (fun _ => 0))), ((r53 5), .inl (cy 1, 6, .inl (fun _ => 0)))]) rfl (fun C => ?_)
  refine q_iconst C (v := 0) dX4_init_70 (by decide) ?_
  refine q_istore_n C dX4_init_71 rfl (by decide) (lv' := [(0, .ref h0), (1, .int 0)]) rfl ?_
  refine q_iload_n C dX4_init_72 rfl 1 rfl ?_
  refine q_bipush C (v := 6) dX4_init_73 (by decide) ?_
  refine i_icmp_ge_f C dX4_init_75 (by decide) ?_
  refine q_iconst C (v := 0) dX4_init_78 (by decide) ?_
  refine q_istore_n C dX4_init_79 rfl (by decide) (lv' := [(0, .ref h0), (1, .int 0), (2, .int 0)]) rfl ?_
  refine q_iload_n C dX4_init_80 rfl 2 rfl ?_
  refine q_bipush C (v := 6) dX4_init_81 (by decide) ?_
  refine i_icmp_ge_f C dX4_init_83 (by decide) ?_
  refine q_aload_n C dX4_init_86 rfl 0 rfl ?_
  refine i_get C (Cn := RX4) (T := TX4) (Nf := 8) (ci := 4) (k := 5) (v := .ref q53) nX4_init_X4 0 rfl rfl (by decide) rfl hX4_init_31 dX4_init_87 ?_
  refine q_iload_n C dX4_init_90 rfl 1 rfl ?_
  refine i_aald C 12 (r := r53 0) (t0 := 6) (ty := .array .int) rfl rfl rfl (by unfold vp_in; decide) rfl dX4_init_91 ?_
  refine q_iload_n C dX4_init_92 rfl 2 rfl ?_
  refine q_iload_n C dX4_init_93 rfl 1 rfl ?_
  refine q_iload_n C dX4_init_94 rfl 2 rfl ?_
  refine i_icmp_ne_f C dX4_init_95 (by decide) ?_
  refine q_iconst C (v := 0) dX4_init_98 (by decide) ?_
  refine q_goto C (tgt := 104) dX4_init_99 (by decide) ?_
  refine i_iast C 13 rfl (by unfold vp_in; decide) dX4_init_104 (L' := [(h0, .inr (4, [.ref q7, .ref q15, .ref q23, .ref q33, .ref q43, .ref q53, .int 0, .int 0])), (q7, .inl (cy 1, 14, .inl (fun _ => 0))), (q15, .inl (cy 1, 6, .inl (fun _ => 0))), (q23, .inl (cy 1, 6, .inl (fun _ => 0))), (q33, .inl (cy 5, 6, .inr (.inr (.inr (.inr (aaF r33)))))), ((r33 0), .inl (cy 0, 60, .inl (fun _ => 0))), ((r33 1), .inl (cy 0, 60, .inl (fun _ => 0))), ((r33 2), .inl (cy 0, 60, .inl (fun _ => 0))), ((r33 3), .inl (cy 0, 60, .inl (fun _ => 0))), ((r33 4), .inl (cy 0, 60, .inl (fun _ => 0))), ((r33 5), .inl (cy 0, 60, .inl (fun _ => 0))), (q43, .inl (cy 1, 6, .inl (fun _ => 0))), (q53, .inl (cy 6, 6, .inr (.inr (.inr (.inr (aaF r53)))))), ((r53 0), .inl (cy 1, 6, .inl (upd (fun _ => 0) 0 0))), ((r53 1), .inl (cy 1, 6, .inl (fun _ => 0))), ((r53 2), .inl (cy 1, 6, .inl (fun _ => 0))), ((r53 3), .inl (cy 1, 6, .inl (fun _ => 0))), ((r53 4), .inl (cy 1, 6, .inl (fun _ => 0))), ((r53 5), .inl (cy 1, 6, .inl (fun _ => 0)))]) rfl (fun C => ?_)
  refine i_iinc C dX4_init_105 2 rfl (by decide) (v := 1) (by decide) (lv' := [(0, .ref h0), (1, .int 0), (2, .int 1)]) rfl ?_
  refine q_goto C (tgt := 80) dX4_init_108 (by decide) ?_
  refine q_iload_n C dX4_init_80 rfl 2 rfl ?_
  refine q_bipush C (v := 6) dX4_init_81 (by decide) ?_
  refine i_icmp_ge_f C dX4_init_83 (by decide) ?_
  refine q_aload_n C dX4_init_86 rfl 0 rfl ?_
  refine i_get C (Cn := RX4) (T := TX4) (Nf := 8) (ci := 4) (k := 5) (v := .ref q53) nX4_init_X4 0 rfl rfl (by decide) rfl hX4_init_31 dX4_init_87 ?_
  refine q_iload_n C dX4_init_90 rfl 1 rfl ?_
  refine i_aald C 12 (r := r53 0) (t0 := 6) (ty := .array .int) rfl rfl rfl (by unfold vp_in; decide) rfl dX4_init_91 ?_
  refine q_iload_n C dX4_init_92 rfl 2 rfl ?_
  refine q_iload_n C dX4_init_93 rfl 1 rfl ?_
  refine q_iload_n C dX4_init_94 rfl 2 rfl ?_
  refine i_icmp_ne_t C (tgt := 102) dX4_init_95 (by decide) (by decide) ?_
  refine q_ldc C (v := 1000000) dX4_init_102 hX4_init_41 ?_
  refine i_iast C 13 rfl (by unfold vp_in; decide) dX4_init_104 (L' := [(h0, .inr (4, [.ref q7, .ref q15, .ref q23, .ref q33, .ref q43, .ref q53, .int 0, .int 0])), (q7, .inl (cy 1, 14, .inl (fun _ => 0))), (q15, .inl (cy 1, 6, .inl (fun _ => 0))), (q23, .inl (cy 1, 6, .inl (fun _ => 0))), (q33, .inl (cy 5, 6, .inr (.inr (.inr (.inr (aaF r33)))))), ((r33 0), .inl (cy 0, 60, .inl (fun _ => 0))), ((r33 1), .inl (cy 0, 60, .inl (fun _ => 0))), ((r33 2), .inl (cy 0, 60, .inl (fun _ => 0))), ((r33 3), .inl (cy 0, 60, .inl (fun _ => 0))), ((r33 4), .inl (cy 0, 60, .inl (fun _ => 0))), ((r33 5), .inl (cy 0, 60, .inl (fun _ => 0))), (q43, .inl (cy 1, 6, .inl (fun _ => 0))), (q53, .inl (cy 6, 6, .inr (.inr (.inr (.inr (aaF r53)))))), ((r53 0), .inl (cy 1, 6, .inl (upd (upd (fun _ => 0) 0 0) 1 1000000))), ((r53 1), .inl (cy 1, 6, .inl (fun _ => 0))), ((r53 2), .inl (cy 1, 6, .inl (fun _ => 0))), ((r53 3), .inl (cy 1, 6, .inl (fun _ => 0))), ((r53 4), .inl (cy 1, 6, .inl (fun _ => 0))), ((r53 5), .inl (cy 1, 6, .inl (fun _ => 0)))]) rfl (fun C => ?_)
  refine i_iinc C dX4_init_105 2 rfl (by decide) (v := 2) (by decide) (lv' := [(0, .ref h0), (1, .int 0), (2, .int 2)]) rfl ?_
  refine q_goto C (tgt := 80) dX4_init_108 (by decide) ?_
  refine q_iload_n C dX4_init_80 rfl 2 rfl ?_
  refine q_bipush C (v := 6) dX4_init_81 (by decide) ?_
  refine i_icmp_ge_f C dX4_init_83 (by decide) ?_
  refine q_aload_n C dX4_init_86 rfl 0 rfl ?_
  refine i_get C (Cn := RX4) (T := TX4) (Nf := 8) (ci := 4) (k := 5) (v := .ref q53) nX4_init_X4 0 rfl rfl (by decide) rfl hX4_init_31 dX4_init_87 ?_
  refine q_iload_n C dX4_init_90 rfl 1 rfl ?_
  refine i_aald C 12 (r := r53 0) (t0 := 6) (ty := .array .int) rfl rfl rfl (by unfold vp_in; decide) rfl dX4_init_91 ?_
  refine q_iload_n C dX4_init_92 rfl 2 rfl ?_
  refine q_iload_n C dX4_init_93 rfl 1 rfl ?_
  refine q_iload_n C dX4_init_94 rfl 2 rfl ?_
  refine i_icmp_ne_t C (tgt := 102) dX4_init_95 (by decide) (by decide) ?_
  refine q_ldc C (v := 1000000) dX4_init_102 hX4_init_41 ?_
  refine i_iast C 13 rfl (by unfold vp_in; decide) dX4_init_104 (L' := [(h0, .inr (4, [.ref q7, .ref q15, .ref q23, .ref q33, .ref q43, .ref q53, .int 0, .int 0])), (q7, .inl (cy 1, 14, .inl (fun _ => 0))), (q15, .inl (cy 1, 6, .inl (fun _ => 0))), (q23, .inl (cy 1, 6, .inl (fun _ => 0))), (q33, .inl (cy 5, 6, .inr (.inr (.inr (.inr (aaF r33)))))), ((r33 0), .inl (cy 0, 60, .inl (fun _ => 0))), ((r33 1), .inl (cy 0, 60, .inl (fun _ => 0))), ((r33 2), .inl (cy 0, 60, .inl (fun _ => 0))), ((r33 3), .inl (cy 0, 60, .inl (fun _ => 0))), ((r33 4), .inl (cy 0, 60, .inl (fun _ => 0))), ((r33 5), .inl (cy 0, 60, .inl (fun _ => 0))), (q43, .inl (cy 1, 6, .inl (fun _ => 0))), (q53, .inl (cy 6, 6, .inr (.inr (.inr (.inr (aaF r53)))))), ((r53 0), .inl (cy 1, 6, .inl (upd (upd (upd (fun _ => 0) 0 0) 1 1000000) 2 1000000))), ((r53 1), .inl (cy 1, 6, .inl (fun _ => 0))), ((r53 2), .inl (cy 1, 6, .inl (fun _ => 0))), ((r53 3), .inl (cy 1, 6, .inl (fun _ => 0))), ((r53 4), .inl (cy 1, 6, .inl (fun _ => 0))), ((r53 5), .inl (cy 1, 6, .inl (fun _ => 0)))]) rfl (fun C => ?_)
  refine i_iinc C dX4_init_105 2 rfl (by decide) (v := 3) (by decide) (lv' := [(0, .ref h0), (1, .int 0), (2, .int 3)]) rfl ?_
  refine q_goto C (tgt := 80) dX4_init_108 (by decide) ?_
  refine q_iload_n C dX4_init_80 rfl 2 rfl ?_
  refine q_bipush C (v := 6) dX4_init_81 (by decide) ?_
  refine i_icmp_ge_f C dX4_init_83 (by decide) ?_
  refine q_aload_n C dX4_init_86 rfl 0 rfl ?_
  refine i_get C (Cn := RX4) (T := TX4) (Nf := 8) (ci := 4) (k := 5) (v := .ref q53) nX4_init_X4 0 rfl rfl (by decide) rfl hX4_init_31 dX4_init_87 ?_
  refine q_iload_n C dX4_init_90 rfl 1 rfl ?_
  refine i_aald C 12 (r := r53 0) (t0 := 6) (ty := .array .int) rfl rfl rfl (by unfold vp_in; decide) rfl dX4_init_91 ?_
  refine q_iload_n C dX4_init_92 rfl 2 rfl ?_
  refine q_iload_n C dX4_init_93 rfl 1 rfl ?_
  refine q_iload_n C dX4_init_94 rfl 2 rfl ?_
  refine i_icmp_ne_t C (tgt := 102) dX4_init_95 (by decide) (by decide) ?_
  refine q_ldc C (v := 1000000) dX4_init_102 hX4_init_41 ?_
  refine i_iast C 13 rfl (by unfold vp_in; decide) dX4_init_104 (L' := [(h0, .inr (4, [.ref q7, .ref q15, .ref q23, .ref q33, .ref q43, .ref q53, .int 0, .int 0])), (q7, .inl (cy 1, 14, .inl (fun _ => 0))), (q15, .inl (cy 1, 6, .inl (fun _ => 0))), (q23, .inl (cy 1, 6, .inl (fun _ => 0))), (q33, .inl (cy 5, 6, .inr (.inr (.inr (.inr (aaF r33)))))), ((r33 0), .inl (cy 0, 60, .inl (fun _ => 0))), ((r33 1), .inl (cy 0, 60, .inl (fun _ => 0))), ((r33 2), .inl (cy 0, 60, .inl (fun _ => 0))), ((r33 3), .inl (cy 0, 60, .inl (fun _ => 0))), ((r33 4), .inl (cy 0, 60, .inl (fun _ => 0))), ((r33 5), .inl (cy 0, 60, .inl (fun _ => 0))), (q43, .inl (cy 1, 6, .inl (fun _ => 0))), (q53, .inl (cy 6, 6, .inr (.inr (.inr (.inr (aaF r53)))))), ((r53 0), .inl (cy 1, 6, .inl (upd (upd (upd (upd (fun _ => 0) 0 0) 1 1000000) 2 1000000) 3 1000000))), ((r53 1), .inl (cy 1, 6, .inl (fun _ => 0))), ((r53 2), .inl (cy 1, 6, .inl (fun _ => 0))), ((r53 3), .inl (cy 1, 6, .inl (fun _ => 0))), ((r53 4), .inl (cy 1, 6, .inl (fun _ => 0))), ((r53 5), .inl (cy 1, 6, .inl (fun _ => 0)))]) rfl (fun C => ?_)
  refine i_iinc C dX4_init_105 2 rfl (by decide) (v := 4) (by decide) (lv' := [(0, .ref h0), (1, .int 0), (2, .int 4)]) rfl ?_
  refine q_goto C (tgt := 80) dX4_init_108 (by decide) ?_
  refine q_iload_n C dX4_init_80 rfl 2 rfl ?_
  refine q_bipush C (v := 6) dX4_init_81 (by decide) ?_
  refine i_icmp_ge_f C dX4_init_83 (by decide) ?_
  refine q_aload_n C dX4_init_86 rfl 0 rfl ?_
  refine i_get C (Cn := RX4) (T := TX4) (Nf := 8) (ci := 4) (k := 5) (v := .ref q53) nX4_init_X4 0 rfl rfl (by decide) rfl hX4_init_31 dX4_init_87 ?_
  refine q_iload_n C dX4_init_90 rfl 1 rfl ?_
  refine i_aald C 12 (r := r53 0) (t0 := 6) (ty := .array .int) rfl rfl rfl (by unfold vp_in; decide) rfl dX4_init_91 ?_
  refine q_iload_n C dX4_init_92 rfl 2 rfl ?_
  refine q_iload_n C dX4_init_93 rfl 1 rfl ?_
  refine q_iload_n C dX4_init_94 rfl 2 rfl ?_
  refine i_icmp_ne_t C (tgt := 102) dX4_init_95 (by decide) (by decide) ?_
  refine q_ldc C (v := 1000000) dX4_init_102 hX4_init_41 ?_
  refine i_iast C 13 rfl (by unfold vp_in; decide) dX4_init_104 (L' := [(h0, .inr (4, [.ref q7, .ref q15, .ref q23, .ref q33, .ref q43, .ref q53, .int 0, .int 0])), (q7, .inl (cy 1, 14, .inl (fun _ => 0))), (q15, .inl (cy 1, 6, .inl (fun _ => 0))), (q23, .inl (cy 1, 6, .inl (fun _ => 0))), (q33, .inl (cy 5, 6, .inr (.inr (.inr (.inr (aaF r33)))))), ((r33 0), .inl (cy 0, 60, .inl (fun _ => 0))), ((r33 1), .inl (cy 0, 60, .inl (fun _ => 0))), ((r33 2), .inl (cy 0, 60, .inl (fun _ => 0))), ((r33 3), .inl (cy 0, 60, .inl (fun _ => 0))), ((r33 4), .inl (cy 0, 60, .inl (fun _ => 0))), ((r33 5), .inl (cy 0, 60, .inl (fun _ => 0))), (q43, .inl (cy 1, 6, .inl (fun _ => 0))), (q53, .inl (cy 6, 6, .inr (.inr (.inr (.inr (aaF r53)))))), ((r53 0), .inl (cy 1, 6, .inl (upd (upd (upd (upd (upd (fun _ => 0) 0 0) 1 1000000) 2 1000000) 3 1000000) 4 1000000))), ((r53 1), .inl (cy 1, 6, .inl (fun _ => 0))), ((r53 2), .inl (cy 1, 6, .inl (fun _ => 0))), ((r53 3), .inl (cy 1, 6, .inl (fun _ => 0))), ((r53 4), .inl (cy 1, 6, .inl (fun _ => 0))), ((r53 5), .inl (cy 1, 6, .inl (fun _ => 0)))]) rfl (fun C => ?_)
  refine i_iinc C dX4_init_105 2 rfl (by decide) (v := 5) (by decide) (lv' := [(0, .ref h0), (1, .int 0), (2, .int 5)]) rfl ?_
  refine q_goto C (tgt := 80) dX4_init_108 (by decide) ?_
  refine q_iload_n C dX4_init_80 rfl 2 rfl ?_
  refine q_bipush C (v := 6) dX4_init_81 (by decide) ?_
  refine i_icmp_ge_f C dX4_init_83 (by decide) ?_
  refine q_aload_n C dX4_init_86 rfl 0 rfl ?_
  refine i_get C (Cn := RX4) (T := TX4) (Nf := 8) (ci := 4) (k := 5) (v := .ref q53) nX4_init_X4 0 rfl rfl (by decide) rfl hX4_init_31 dX4_init_87 ?_
  refine q_iload_n C dX4_init_90 rfl 1 rfl ?_
  refine i_aald C 12 (r := r53 0) (t0 := 6) (ty := .array .int) rfl rfl rfl (by unfold vp_in; decide) rfl dX4_init_91 ?_
  refine q_iload_n C dX4_init_92 rfl 2 rfl ?_
  refine q_iload_n C dX4_init_93 rfl 1 rfl ?_
  refine q_iload_n C dX4_init_94 rfl 2 rfl ?_
  refine i_icmp_ne_t C (tgt := 102) dX4_init_95 (by decide) (by decide) ?_
  refine q_ldc C (v := 1000000) dX4_init_102 hX4_init_41 ?_
  refine i_iast C 13 rfl (by unfold vp_in; decide) dX4_init_104 (L' := [(h0, .inr (4, [.ref q7, .ref q15, .ref q23, .ref q33, .ref q43, .ref q53, .int 0, .int 0])), (q7, .inl (cy 1, 14, .inl (fun _ => 0))), (q15, .inl (cy 1, 6, .inl (fun _ => 0))), (q23, .inl (cy 1, 6, .inl (fun _ => 0))), (q33, .inl (cy 5, 6, .inr (.inr (.inr (.inr (aaF r33)))))), ((r33 0), .inl (cy 0, 60, .inl (fun _ => 0))), ((r33 1), .inl (cy 0, 60, .inl (fun _ => 0))), ((r33 2), .inl (cy 0, 60, .inl (fun _ => 0))), ((r33 3), .inl (cy 0, 60, .inl (fun _ => 0))), ((r33 4), .inl (cy 0, 60, .inl (fun _ => 0))), ((r33 5), .inl (cy 0, 60, .inl (fun _ => 0))), (q43, .inl (cy 1, 6, .inl (fun _ => 0))), (q53, .inl (cy 6, 6, .inr (.inr (.inr (.inr (aaF r53)))))), ((r53 0), .inl (cy 1, 6, .inl (upd (upd (upd (upd (upd (upd (fun _ => 0) 0 0) 1 1000000) 2 1000000) 3 1000000) 4 1000000) 5 1000000))), ((r53 1), .inl (cy 1, 6, .inl (fun _ => 0))), ((r53 2), .inl (cy 1, 6, .inl (fun _ => 0))), ((r53 3), .inl (cy 1, 6, .inl (fun _ => 0))), ((r53 4), .inl (cy 1, 6, .inl (fun _ => 0))), ((r53 5), .inl (cy 1, 6, .inl (fun _ => 0)))]) rfl (fun C => ?_)
  refine i_iinc C dX4_init_105 2 rfl (by decide) (v := 6) (by decide) (lv' := [(0, .ref h0), (1, .int 0), (2, .int 6)]) rfl ?_
  refine q_goto C (tgt := 80) dX4_init_108 (by decide) ?_
  refine q_iload_n C dX4_init_80 rfl 2 rfl ?_
  refine q_bipush C (v := 6) dX4_init_81 (by decide) ?_
  refine i_icmp_ge_t C (tgt := 111) dX4_init_83 (by decide) (by decide) ?_
  refine i_iinc C dX4_init_111 1 rfl (by decide) (v := 1) (by decide) (lv' := [(0, .ref h0), (1, .int 1), (2, .int 6)]) rfl ?_
  refine q_goto C (tgt := 72) dX4_init_114 (by decide) ?_
  refine q_iload_n C dX4_init_72 rfl 1 rfl ?_
  refine q_bipush C (v := 6) dX4_init_73 (by decide) ?_
  refine i_icmp_ge_f C dX4_init_75 (by decide) ?_
  refine q_iconst C (v := 0) dX4_init_78 (by decide) ?_
  refine q_istore_n C dX4_init_79 rfl (by decide) (lv' := [(0, .ref h0), (1, .int 1), (2, .int 0)]) rfl ?_
  refine q_iload_n C dX4_init_80 rfl 2 rfl ?_
  refine q_bipush C (v := 6) dX4_init_81 (by decide) ?_
  refine i_icmp_ge_f C dX4_init_83 (by decide) ?_
  refine q_aload_n C dX4_init_86 rfl 0 rfl ?_
  refine i_get C (Cn := RX4) (T := TX4) (Nf := 8) (ci := 4) (k := 5) (v := .ref q53) nX4_init_X4 0 rfl rfl (by decide) rfl hX4_init_31 dX4_init_87 ?_
  refine q_iload_n C dX4_init_90 rfl 1 rfl ?_
  refine i_aald C 12 (r := r53 1) (t0 := 6) (ty := .array .int) rfl rfl rfl (by unfold vp_in; decide) rfl dX4_init_91 ?_
  refine q_iload_n C dX4_init_92 rfl 2 rfl ?_
  refine q_iload_n C dX4_init_93 rfl 1 rfl ?_
  refine q_iload_n C dX4_init_94 rfl 2 rfl ?_
  refine i_icmp_ne_t C (tgt := 102) dX4_init_95 (by decide) (by decide) ?_
  refine q_ldc C (v := 1000000) dX4_init_102 hX4_init_41 ?_
  refine i_iast C 14 rfl (by unfold vp_in; decide) dX4_init_104 (L' := [(h0, .inr (4, [.ref q7, .ref q15, .ref q23, .ref q33, .ref q43, .ref q53, .int 0, .int 0])), (q7, .inl (cy 1, 14, .inl (fun _ => 0))), (q15, .inl (cy 1, 6, .inl (fun _ => 0))), (q23, .inl (cy 1, 6, .inl (fun _ => 0))), (q33, .inl (cy 5, 6, .inr (.inr (.inr (.inr (aaF r33)))))), ((r33 0), .inl (cy 0, 60, .inl (fun _ => 0))), ((r33 1), .inl (cy 0, 60, .inl (fun _ => 0))), ((r33 2), .inl (cy 0, 60, .inl (fun _ => 0))), ((r33 3), .inl (cy 0, 60, .inl (fun _ => 0))), ((r33 4), .inl (cy 0, 60, .inl (fun _ => 0))), ((r33 5), .inl (cy 0, 60, .inl (fun _ => 0))), (q43, .inl (cy 1, 6, .inl (fun _ => 0))), (q53, .inl (cy 6, 6, .inr (.inr (.inr (.inr (aaF r53)))))), ((r53 0), .inl (cy 1, 6, .inl (upd (upd (upd (upd (upd (upd (fun _ => 0) 0 0) 1 1000000) 2 1000000) 3 1000000) 4 1000000) 5 1000000))), ((r53 1), .inl (cy 1, 6, .inl (upd (fun _ => 0) 0 1000000))), ((r53 2), .inl (cy 1, 6, .inl (fun _ => 0))), ((r53 3), .inl (cy 1, 6, .inl (fun _ => 0))), ((r53 4), .inl (cy 1, 6, .inl (fun _ => 0))), ((r53 5), .inl (cy 1, 6, .inl (fun _ => 0)))]) rfl (fun C => ?_)
  refine i_iinc C dX4_init_105 2 rfl (by decide) (v := 1) (by decide) (lv' := [(0, .ref h0), (1, .int 1), (2, .int 1)]) rfl ?_
  refine q_goto C (tgt := 80) dX4_init_108 (by decide) ?_
  refine q_iload_n C dX4_init_80 rfl 2 rfl ?_
  refine q_bipush C (v := 6) dX4_init_81 (by decide) ?_
  refine i_icmp_ge_f C dX4_init_83 (by decide) ?_
  refine q_aload_n C dX4_init_86 rfl 0 rfl ?_
  refine i_get C (Cn := RX4) (T := TX4) (Nf := 8) (ci := 4) (k := 5) (v := .ref q53) nX4_init_X4 0 rfl rfl (by decide) rfl hX4_init_31 dX4_init_87 ?_
  refine q_iload_n C dX4_init_90 rfl 1 rfl ?_
  refine i_aald C 12 (r := r53 1) (t0 := 6) (ty := .array .int) rfl rfl rfl (by unfold vp_in; decide) rfl dX4_init_91 ?_
  refine q_iload_n C dX4_init_92 rfl 2 rfl ?_
  refine q_iload_n C dX4_init_93 rfl 1 rfl ?_
  refine q_iload_n C dX4_init_94 rfl 2 rfl ?_
  refine i_icmp_ne_f C dX4_init_95 (by decide) ?_
  refine q_iconst C (v := 0) dX4_init_98 (by decide) ?_
  refine q_goto C (tgt := 104) dX4_init_99 (by decide) ?_
  refine i_iast C 14 rfl (by unfold vp_in; decide) dX4_init_104 (L' := [(h0, .inr (4, [.ref q7, .ref q15, .ref q23, .ref q33, .ref q43, .ref q53, .int 0, .int 0])), (q7, .inl (cy 1, 14, .inl (fun _ => 0))), (q15, .inl (cy 1, 6, .inl (fun _ => 0))), (q23, .inl (cy 1, 6, .inl (fun _ => 0))), (q33, .inl (cy 5, 6, .inr (.inr (.inr (.inr (aaF r33)))))), ((r33 0), .inl (cy 0, 60, .inl (fun _ => 0))), ((r33 1), .inl (cy 0, 60, .inl (fun _ => 0))), ((r33 2), .inl (cy 0, 60, .inl (fun _ => 0))), ((r33 3), .inl (cy 0, 60, .inl (fun _ => 0))), ((r33 4), .inl (cy 0, 60, .inl (fun _ => 0))), ((r33 5), .inl (cy 0, 60, .inl (fun _ => 0))), (q43, .inl (cy 1, 6, .inl (fun _ => 0))), (q53, .inl (cy 6, 6, .inr (.inr (.inr (.inr (aaF r53)))))), ((r53 0), .inl (cy 1, 6, .inl (upd (upd (upd (upd (upd (upd (fun _ => 0) 0 0) 1 1000000) 2 1000000) 3 1000000) 4 1000000) 5 1000000))), ((r53 1), .inl (cy 1, 6, .inl (upd (upd (fun _ => 0) 0 1000000) 1 0))), ((r53 2), .inl (cy 1, 6, .inl (fun _ => 0))), ((r53 3), .inl (cy 1, 6, .inl (fun _ => 0))), ((r53 4), .inl (cy 1, 6, .inl (fun _ => 0))), ((r53 5), .inl (cy 1, 6, .inl (fun _ => 0)))]) rfl (fun C => ?_)
  refine i_iinc C dX4_init_105 2 rfl (by decide) (v := 2) (by decide) (lv' := [(0, .ref h0), (1, .int 1), (2, .int 2)]) rfl ?_
  refine q_goto C (tgt := 80) dX4_init_108 (by decide) ?_
  refine q_iload_n C dX4_init_80 rfl 2 rfl ?_
  refine q_bipush C (v := 6) dX4_init_81 (by decide) ?_
  refine i_icmp_ge_f C dX4_init_83 (by decide) ?_
  refine q_aload_n C dX4_init_86 rfl 0 rfl ?_
  refine i_get C (Cn := RX4) (T := TX4) (Nf := 8) (ci := 4) (k := 5) (v := .ref q53) nX4_init_X4 0 rfl rfl (by decide) rfl hX4_init_31 dX4_init_87 ?_
  refine q_iload_n C dX4_init_90 rfl 1 rfl ?_
  refine i_aald C 12 (r := r53 1) (t0 := 6) (ty := .array .int) rfl rfl rfl (by unfold vp_in; decide) rfl dX4_init_91 ?_
  refine q_iload_n C dX4_init_92 rfl 2 rfl ?_
  refine q_iload_n C dX4_init_93 rfl 1 rfl ?_
  refine q_iload_n C dX4_init_94 rfl 2 rfl ?_
  refine i_icmp_ne_t C (tgt := 102) dX4_init_95 (by decide) (by decide) ?_
  refine q_ldc C (v := 1000000) dX4_init_102 hX4_init_41 ?_
  refine i_iast C 14 rfl (by unfold vp_in; decide) dX4_init_104 (L' := [(h0, .inr (4, [.ref q7, .ref q15, .ref q23, .ref q33, .ref q43, .ref q53, .int 0, .int 0])), (q7, .inl (cy 1, 14, .inl (fun _ => 0))), (q15, .inl (cy 1, 6, .inl (fun _ => 0))), (q23, .inl (cy 1, 6, .inl (fun _ => 0))), (q33, .inl (cy 5, 6, .inr (.inr (.inr (.inr (aaF r33)))))), ((r33 0), .inl (cy 0, 60, .inl (fun _ => 0))), ((r33 1), .inl (cy 0, 60, .inl (fun _ => 0))), ((r33 2), .inl (cy 0, 60, .inl (fun _ => 0))), ((r33 3), .inl (cy 0, 60, .inl (fun _ => 0))), ((r33 4), .inl (cy 0, 60, .inl (fun _ => 0))), ((r33 5), .inl (cy 0, 60, .inl (fun _ => 0))), (q43, .inl (cy 1, 6, .inl (fun _ => 0))), (q53, .inl (cy 6, 6, .inr (.inr (.inr (.inr (aaF r53)))))), ((r53 0), .inl (cy 1, 6, .inl (upd (upd (upd (upd (upd (upd (fun _ => 0) 0 0) 1 1000000) 2 1000000) 3 1000000) 4 1000000) 5 1000000))), ((r53 1), .inl (cy 1, 6, .inl (upd (upd (upd (fun _ => 0) 0 1000000) 1 0) 2 1000000))), ((r53 2), .inl (cy 1, 6, .inl (fun _ => 0))), ((r53 3), .inl (cy 1, 6, .inl (fun _ => 0))), ((r53 4), .inl (cy 1, 6, .inl (fun _ => 0))), ((r53 5), .inl (cy 1, 6, .inl (fun _ => 0)))]) rfl (fun C => ?_)
  refine i_iinc C dX4_init_105 2 rfl (by decide) (v := 3) (by decide) (lv' := [(0, .ref h0), (1, .int 1), (2, .int 3)]) rfl ?_
  refine q_goto C (tgt := 80) dX4_init_108 (by decide) ?_
  refine q_iload_n C dX4_init_80 rfl 2 rfl ?_
  refine q_bipush C (v := 6) dX4_init_81 (by decide) ?_
  refine i_icmp_ge_f C dX4_init_83 (by decide) ?_
  refine q_aload_n C dX4_init_86 rfl 0 rfl ?_
  refine i_get C (Cn := RX4) (T := TX4) (Nf := 8) (ci := 4) (k := 5) (v := .ref q53) nX4_init_X4 0 rfl rfl (by decide) rfl hX4_init_31 dX4_init_87 ?_
  refine q_iload_n C dX4_init_90 rfl 1 rfl ?_
  refine i_aald C 12 (r := r53 1) (t0 := 6) (ty := .array .int) rfl rfl rfl (by unfold vp_in; decide) rfl dX4_init_91 ?_
  refine q_iload_n C dX4_init_92 rfl 2 rfl ?_
  refine q_iload_n C dX4_init_93 rfl 1 rfl ?_
  refine q_iload_n C dX4_init_94 rfl 2 rfl ?_
  refine i_icmp_ne_t C (tgt := 102) dX4_init_95 (by decide) (by decide) ?_
  refine q_ldc C (v := 1000000) dX4_init_102 hX4_init_41 ?_
  refine i_iast C 14 rfl (by unfold vp_in; decide) dX4_init_104 (L' := [(h0, .inr (4, [.ref q7, .ref q15, .ref q23, .ref q33, .ref q43, .ref q53, .int 0, .int 0])), (q7, .inl (cy 1, 14, .inl (fun _ => 0))), (q15, .inl (cy 1, 6, .inl (fun _ => 0))), (q23, .inl (cy 1, 6, .inl (fun _ => 0))), (q33, .inl (cy 5, 6, .inr (.inr (.inr (.inr (aaF r33)))))), ((r33 0), .inl (cy 0, 60, .inl (fun _ => 0))), ((r33 1), .inl (cy 0, 60, .inl (fun _ => 0))), ((r33 2), .inl (cy 0, 60, .inl (fun _ => 0))), ((r33 3), .inl (cy 0, 60, .inl (fun _ => 0))), ((r33 4), .inl (cy 0, 60, .inl (fun _ => 0))), ((r33 5), .inl (cy 0, 60, .inl (fun _ => 0))), (q43, .inl (cy 1, 6, .inl (fun _ => 0))), (q53, .inl (cy 6, 6, .inr (.inr (.inr (.inr (aaF r53)))))), ((r53 0), .inl (cy 1, 6, .inl (upd (upd (upd (upd (upd (upd (fun _ => 0) 0 0) 1 1000000) 2 1000000) 3 1000000) 4 1000000) 5 1000000))), ((r53 1), .inl (cy 1, 6, .inl (upd (upd (upd (upd (fun _ => 0) 0 1000000) 1 0) 2 1000000) 3 1000000))), ((r53 2), .inl (cy 1, 6, .inl (fun _ => 0))), ((r53 3), .inl (cy 1, 6, .inl (fun _ => 0))), ((r53 4), .inl (cy 1, 6, .inl (fun _ => 0))), ((r53 5), .inl (cy 1, 6, .inl (fun _ => 0)))]) rfl (fun C => ?_)
  refine i_iinc C dX4_init_105 2 rfl (by decide) (v := 4) (by decide) (lv' := [(0, .ref h0), (1, .int 1), (2, .int 4)]) rfl ?_
  refine q_goto C (tgt := 80) dX4_init_108 (by decide) ?_
  refine q_iload_n C dX4_init_80 rfl 2 rfl ?_
  refine q_bipush C (v := 6) dX4_init_81 (by decide) ?_
  refine i_icmp_ge_f C dX4_init_83 (by decide) ?_
  refine q_aload_n C dX4_init_86 rfl 0 rfl ?_
  refine i_get C (Cn := RX4) (T := TX4) (Nf := 8) (ci := 4) (k := 5) (v := .ref q53) nX4_init_X4 0 rfl rfl (by decide) rfl hX4_init_31 dX4_init_87 ?_
  refine q_iload_n C dX4_init_90 rfl 1 rfl ?_
  refine i_aald C 12 (r := r53 1) (t0 := 6) (ty := .array .int) rfl rfl rfl (by unfold vp_in; decide) rfl dX4_init_91 ?_
  refine q_iload_n C dX4_init_92 rfl 2 rfl ?_
  refine q_iload_n C dX4_init_93 rfl 1 rfl ?_
  refine q_iload_n C dX4_init_94 rfl 2 rfl ?_
  refine i_icmp_ne_t C (tgt := 102) dX4_init_95 (by decide) (by decide) ?_
  refine q_ldc C (v := 1000000) dX4_init_102 hX4_init_41 ?_
  refine i_iast C 14 rfl (by unfold vp_in; decide) dX4_init_104 (L' := [(h0, .inr (4, [.ref q7, .ref q15, .ref q23, .ref q33, .ref q43, .ref q53, .int 0, .int 0])), (q7, .inl (cy 1, 14, .inl (fun _ => 0))), (q15, .inl (cy 1, 6, .inl (fun _ => 0))), (q23, .inl (cy 1, 6, .inl (fun _ => 0))), (q33, .inl (cy 5, 6, .inr (.inr (.inr (.inr (aaF r33)))))), ((r33 0), .inl (cy 0, 60, .inl (fun _ => 0))), ((r33 1), .inl (cy 0, 60, .inl (fun _ => 0))), ((r33 2), .inl (cy 0, 60, .inl (fun _ => 0))), ((r33 3), .inl (cy 0, 60, .inl (fun _ => 0))), ((r33 4), .inl (cy 0, 60, .inl (fun _ => 0))), ((r33 5), .inl (cy 0, 60, .inl (fun _ => 0))), (q43, .inl (cy 1, 6, .inl (fun _ => 0))), (q53, .inl (cy 6, 6, .inr (.inr (.inr (.inr (aaF r53)))))), ((r53 0), .inl (cy 1, 6, .inl (upd (upd (upd (upd (upd (upd (fun _ => 0) 0 0) 1 1000000) 2 1000000) 3 1000000) 4 1000000) 5 1000000))), ((r53 1), .inl (cy 1, 6, .inl (upd (upd (upd (upd (upd (fun _ => 0) 0 1000000) 1 0) 2 1000000) 3 1000000) 4 1000000))), ((r53 2), .inl (cy 1, 6, .inl (fun _ => 0))), ((r53 3), .inl (cy 1, 6, .inl (fun _ => 0))), ((r53 4), .inl (cy 1, 6, .inl (fun _ => 0))), ((r53 5), .inl (cy 1, 6, .inl (fun _ => 0)))]) rfl (fun C => ?_)
  refine i_iinc C dX4_init_105 2 rfl (by decide) (v := 5) (by decide) (lv' := [(0, .ref h0), (1, .int 1), (2, .int 5)]) rfl ?_
  refine q_goto C (tgt := 80) dX4_init_108 (by decide) ?_
  refine q_iload_n C dX4_init_80 rfl 2 rfl ?_
  refine q_bipush C (v := 6) dX4_init_81 (by decide) ?_
  refine i_icmp_ge_f C dX4_init_83 (by decide) ?_
  refine q_aload_n C dX4_init_86 rfl 0 rfl ?_
  refine i_get C (Cn := RX4) (T := TX4) (Nf := 8) (ci := 4) (k := 5) (v := .ref q53) nX4_init_X4 0 rfl rfl (by decide) rfl hX4_init_31 dX4_init_87 ?_
  refine q_iload_n C dX4_init_90 rfl 1 rfl ?_
  refine i_aald C 12 (r := r53 1) (t0 := 6) (ty := .array .int) rfl rfl rfl (by unfold vp_in; decide) rfl dX4_init_91 ?_
  refine q_iload_n C dX4_init_92 rfl 2 rfl ?_
  refine q_iload_n C dX4_init_93 rfl 1 rfl ?_
  refine q_iload_n C dX4_init_94 rfl 2 rfl ?_
  refine i_icmp_ne_t C (tgt := 102) dX4_init_95 (by decide) (by decide) ?_
  refine q_ldc C (v := 1000000) dX4_init_102 hX4_init_41 ?_
  refine i_iast C 14 rfl (by unfold vp_in; decide) dX4_init_104 (L' := [(h0, .inr (4, [.ref q7, .ref q15, .ref q23, .ref q33, .ref q43, .ref q53, .int 0, .int 0])), (q7, .inl (cy 1, 14, .inl (fun _ => 0))), (q15, .inl (cy 1, 6, .inl (fun _ => 0))), (q23, .inl (cy 1, 6, .inl (fun _ => 0))), (q33, .inl (cy 5, 6, .inr (.inr (.inr (.inr (aaF r33)))))), ((r33 0), .inl (cy 0, 60, .inl (fun _ => 0))), ((r33 1), .inl (cy 0, 60, .inl (fun _ => 0))), ((r33 2), .inl (cy 0, 60, .inl (fun _ => 0))), ((r33 3), .inl (cy 0, 60, .inl (fun _ => 0))), ((r33 4), .inl (cy 0, 60, .inl (fun _ => 0))), ((r33 5), .inl (cy 0, 60, .inl (fun _ => 0))), (q43, .inl (cy 1, 6, .inl (fun _ => 0))), (q53, .inl (cy 6, 6, .inr (.inr (.inr (.inr (aaF r53)))))), ((r53 0), .inl (cy 1, 6, .inl (upd (upd (upd (upd (upd (upd (fun _ => 0) 0 0) 1 1000000) 2 1000000) 3 1000000) 4 1000000) 5 1000000))), ((r53 1), .inl (cy 1, 6, .inl (upd (upd (upd (upd (upd (upd (fun _ => 0) 0 1000000) 1 0) 2 1000000) 3 1000000) 4 1000000) 5 1000000))), ((r53 2), .inl (cy 1, 6, .inl (fun _ => 0))), ((r53 3), .inl (cy 1, 6, .inl (fun _ => 0))), ((r53 4), .inl (cy 1, 6, .inl (fun _ => 0))), ((r53 5), .inl (cy 1, 6, .inl (fun _ => 0)))]) rfl (fun C => ?_)
  refine i_iinc C dX4_init_105 2 rfl (by decide) (v := 6) (by decide) (lv' := [(0, .ref h0), (1, .int 1), (2, .int 6)]) rfl ?_
  refine q_goto C (tgt := 80) dX4_init_108 (by decide) ?_
  refine q_iload_n C dX4_init_80 rfl 2 rfl ?_
  refine q_bipush C (v := 6) dX4_init_81 (by decide) ?_
  refine i_icmp_ge_t C (tgt := 111) dX4_init_83 (by decide) (by decide) ?_
  refine i_iinc C dX4_init_111 1 rfl (by decide) (v := 2) (by decide) (lv' := [(0, .ref h0), (1, .int 2), (2, .int 6)]) rfl ?_
  refine q_goto C (tgt := 72) dX4_init_114 (by decide) ?_
  refine q_iload_n C dX4_init_72 rfl 1 rfl ?_
  refine q_bipush C (v := 6) dX4_init_73 (by decide) ?_
  refine i_icmp_ge_f C dX4_init_75 (by decide) ?_
  refine q_iconst C (v := 0) dX4_init_78 (by decide) ?_
  refine q_istore_n C dX4_init_79 rfl (by decide) (lv' := [(0, .ref h0), (1, .int 2), (2, .int 0)]) rfl ?_
  refine q_iload_n C dX4_init_80 rfl 2 rfl ?_
  refine q_bipush C (v := 6) dX4_init_81 (by decide) ?_
  refine i_icmp_ge_f C dX4_init_83 (by decide) ?_
  refine q_aload_n C dX4_init_86 rfl 0 rfl ?_
  refine i_get C (Cn := RX4) (T := TX4) (Nf := 8) (ci := 4) (k := 5) (v := .ref q53) nX4_init_X4 0 rfl rfl (by decide) rfl hX4_init_31 dX4_init_87 ?_
  refine q_iload_n C dX4_init_90 rfl 1 rfl ?_
  refine i_aald C 12 (r := r53 2) (t0 := 6) (ty := .array .int) rfl rfl rfl (by unfold vp_in; decide) rfl dX4_init_91 ?_
  refine q_iload_n C dX4_init_92 rfl 2 rfl ?_
  refine q_iload_n C dX4_init_93 rfl 1 rfl ?_
  refine q_iload_n C dX4_init_94 rfl 2 rfl ?_
  refine i_icmp_ne_t C (tgt := 102) dX4_init_95 (by decide) (by decide) ?_
  refine q_ldc C (v := 1000000) dX4_init_102 hX4_init_41 ?_
  refine i_iast C 15 rfl (by unfold vp_in; decide) dX4_init_104 (L' := [(h0, .inr (4, [.ref q7, .ref q15, .ref q23, .ref q33, .ref q43, .ref q53, .int 0, .int 0])), (q7, .inl (cy 1, 14, .inl (fun _ => 0))), (q15, .inl (cy 1, 6, .inl (fun _ => 0))), (q23, .inl (cy 1, 6, .inl (fun _ => 0))), (q33, .inl (cy 5, 6, .inr (.inr (.inr (.inr (aaF r33)))))), ((r33 0), .inl (cy 0, 60, .inl (fun _ => 0))), ((r33 1), .inl (cy 0, 60, .inl (fun _ => 0))), ((r33 2), .inl (cy 0, 60, .inl (fun _ => 0))), ((r33 3), .inl (cy 0, 60, .inl (fun _ => 0))), ((r33 4), .inl (cy 0, 60, .inl (fun _ => 0))), ((r33 5), .inl (cy 0, 60, .inl (fun _ => 0))), (q43, .inl (cy 1, 6, .inl (fun _ => 0))), (q53, .inl (cy 6, 6, .inr (.inr (.inr (.inr (aaF r53)))))), ((r53 0), .inl (cy 1, 6, .inl (upd (upd (upd (upd (upd (upd (fun _ => 0) 0 0) 1 1000000) 2 1000000) 3 1000000) 4 1000000) 5 1000000))), ((r53 1), .inl (cy 1, 6, .inl (upd (upd (upd (upd (upd (upd (fun _ => 0) 0 1000000) 1 0) 2 1000000) 3 1000000) 4 1000000) 5 1000000))), ((r53 2), .inl (cy 1, 6, .inl (upd (fun _ => 0) 0 1000000))), ((r53 3), .inl (cy 1, 6, .inl (fun _ => 0))), ((r53 4), .inl (cy 1, 6, .inl (fun _ => 0))), ((r53 5), .inl (cy 1, 6, .inl (fun _ => 0)))]) rfl (fun C => ?_)
  refine i_iinc C dX4_init_105 2 rfl (by decide) (v := 1) (by decide) (lv' := [(0, .ref h0), (1, .int 2), (2, .int 1)]) rfl ?_
  refine q_goto C (tgt := 80) dX4_init_108 (by decide) ?_
  refine q_iload_n C dX4_init_80 rfl 2 rfl ?_
  refine q_bipush C (v := 6) dX4_init_81 (by decide) ?_
  refine i_icmp_ge_f C dX4_init_83 (by decide) ?_
  refine q_aload_n C dX4_init_86 rfl 0 rfl ?_
  refine i_get C (Cn := RX4) (T := TX4) (Nf := 8) (ci := 4) (k := 5) (v := .ref q53) nX4_init_X4 0 rfl rfl (by decide) rfl hX4_init_31 dX4_init_87 ?_
  refine q_iload_n C dX4_init_90 rfl 1 rfl ?_
  refine i_aald C 12 (r := r53 2) (t0 := 6) (ty := .array .int) rfl rfl rfl (by unfold vp_in; decide) rfl dX4_init_91 ?_
  refine q_iload_n C dX4_init_92 rfl 2 rfl ?_
  refine q_iload_n C dX4_init_93 rfl 1 rfl ?_
  refine q_iload_n C dX4_init_94 rfl 2 rfl ?_
  refine i_icmp_ne_t C (tgt := 102) dX4_init_95 (by decide) (by decide) ?_
  refine q_ldc C (v := 1000000) dX4_init_102 hX4_init_41 ?_
  refine i_iast C 15 rfl (by unfold vp_in; decide) dX4_init_104 (L' := [(h0, .inr (4, [.ref q7, .ref q15, .ref q23, .ref q33, .ref q43, .ref q53, .int 0, .int 0])), (q7, .inl (cy 1, 14, .inl (fun _ => 0))), (q15, .inl (cy 1, 6, .inl (fun _ => 0))), (q23, .inl (cy 1, 6, .inl (fun _ => 0))), (q33, .inl (cy 5, 6, .inr (.inr (.inr (.inr (aaF r33)))))), ((r33 0), .inl (cy 0, 60, .inl (fun _ => 0))), ((r33 1), .inl (cy 0, 60, .inl (fun _ => 0))), ((r33 2), .inl (cy 0, 60, .inl (fun _ => 0))), ((r33 3), .inl (cy 0, 60, .inl (fun _ => 0))), ((r33 4), .inl (cy 0, 60, .inl (fun _ => 0))), ((r33 5), .inl (cy 0, 60, .inl (fun _ => 0))), (q43, .inl (cy 1, 6, .inl (fun _ => 0))), (q53, .inl (cy 6, 6, .inr (.inr (.inr (.inr (aaF r53)))))), ((r53 0), .inl (cy 1, 6, .inl (upd (upd (upd (upd (upd (upd (fun _ => 0) 0 0) 1 1000000) 2 1000000) 3 1000000) 4 1000000) 5 1000000))), ((r53 1), .inl (cy 1, 6, .inl (upd (upd (upd (upd (upd (upd (fun _ => 0) 0 1000000) 1 0) 2 1000000) 3 1000000) 4 1000000) 5 1000000))), ((r53 2), .inl (cy 1, 6, .inl (upd (upd (fun _ => 0) 0 1000000) 1 1000000))), ((r53 3), .inl (cy 1, 6, .inl (fun _ => 0))), ((r53 4), .inl (cy 1, 6, .inl (fun _ => 0))), ((r53 5), .inl (cy 1, 6, .inl (fun _ => 0)))]) rfl (fun C => ?_)
  refine i_iinc C dX4_init_105 2 rfl (by decide) (v := 2) (by decide) (lv' := [(0, .ref h0), (1, .int 2), (2, .int 2)]) rfl ?_
  refine q_goto C (tgt := 80) dX4_init_108 (by decide) ?_
  refine q_iload_n C dX4_init_80 rfl 2 rfl ?_
  refine q_bipush C (v := 6) dX4_init_81 (by decide) ?_
  refine i_icmp_ge_f C dX4_init_83 (by decide) ?_
  refine q_aload_n C dX4_init_86 rfl 0 rfl ?_
  refine i_get C (Cn := RX4) (T := TX4) (Nf := 8) (ci := 4) (k := 5) (v := .ref q53) nX4_init_X4 0 rfl rfl (by decide) rfl hX4_init_31 dX4_init_87 ?_
  refine q_iload_n C dX4_init_90 rfl 1 rfl ?_
  refine i_aald C 12 (r := r53 2) (t0 := 6) (ty := .array .int) rfl rfl rfl (by unfold vp_in; decide) rfl dX4_init_91 ?_
  refine q_iload_n C dX4_init_92 rfl 2 rfl ?_
  refine q_iload_n C dX4_init_93 rfl 1 rfl ?_
  refine q_iload_n C dX4_init_94 rfl 2 rfl ?_
  refine i_icmp_ne_f C dX4_init_95 (by decide) ?_
  refine q_iconst C (v := 0) dX4_init_98 (by decide) ?_
  refine q_goto C (tgt := 104) dX4_init_99 (by decide) ?_
  refine i_iast C 15 rfl (by unfold vp_in; decide) dX4_init_104 (L' := [(h0, .inr (4, [.ref q7, .ref q15, .ref q23, .ref q33, .ref q43, .ref q53, .int 0, .int 0])), (q7, .inl (cy 1, 14, .inl (fun _ => 0))), (q15, .inl (cy 1, 6, .inl (fun _ => 0))), (q23, .inl (cy 1, 6, .inl (fun _ => 0))), (q33, .inl (cy 5, 6, .inr (.inr (.inr (.inr (aaF r33)))))), ((r33 0), .inl (cy 0, 60, .inl (fun _ => 0))), ((r33 1), .inl (cy 0, 60, .inl (fun _ => 0))), ((r33 2), .inl (cy 0, 60, .inl (fun _ => 0))), ((r33 3), .inl (cy 0, 60, .inl (fun _ => 0))), ((r33 4), .inl (cy 0, 60, .inl (fun _ => 0))), ((r33 5), .inl (cy 0, 60, .inl (fun _ => 0))), (q43, .inl (cy 1, 6, .inl (fun _ => 0))), (q53, .inl (cy 6, 6, .inr (.inr (.inr (.inr (aaF r53)))))), ((r53 0), .inl (cy 1, 6, .inl (upd (upd (upd (upd (upd (upd (fun _ => 0) 0 0) 1 1000000) 2 1000000) 3 1000000) 4 1000000) 5 1000000))), ((r53 1), .inl (cy 1, 6, .inl (upd (upd (upd (upd (upd (upd (fun _ => 0) 0 1000000) 1 0) 2 1000000) 3 1000000) 4 1000000) 5 1000000))), ((r53 2), .inl (cy 1, 6, .inl (upd (upd (upd (fun _ => 0) 0 1000000) 1 1000000) 2 0))), ((r53 3), .inl (cy 1, 6, .inl (fun _ => 0))), ((r53 4), .inl (cy 1, 6, .inl (fun _ => 0))), ((r53 5), .inl (cy 1, 6, .inl (fun _ => 0)))]) rfl (fun C => ?_)
  refine i_iinc C dX4_init_105 2 rfl (by decide) (v := 3) (by decide) (lv' := [(0, .ref h0), (1, .int 2), (2, .int 3)]) rfl ?_
  refine q_goto C (tgt := 80) dX4_init_108 (by decide) ?_
  refine q_iload_n C dX4_init_80 rfl 2 rfl ?_
  refine q_bipush C (v := 6) dX4_init_81 (by decide) ?_
  refine i_icmp_ge_f C dX4_init_83 (by decide) ?_
  refine q_aload_n C dX4_init_86 rfl 0 rfl ?_
  refine i_get C (Cn := RX4) (T := TX4) (Nf := 8) (ci := 4) (k := 5) (v := .ref q53) nX4_init_X4 0 rfl rfl (by decide) rfl hX4_init_31 dX4_init_87 ?_
  refine q_iload_n C dX4_init_90 rfl 1 rfl ?_
  refine i_aald C 12 (r := r53 2) (t0 := 6) (ty := .array .int) rfl rfl rfl (by unfold vp_in; decide) rfl dX4_init_91 ?_
  refine q_iload_n C dX4_init_92 rfl 2 rfl ?_
  refine q_iload_n C dX4_init_93 rfl 1 rfl ?_
  refine q_iload_n C dX4_init_94 rfl 2 rfl ?_
  refine i_icmp_ne_t C (tgt := 102) dX4_init_95 (by decide) (by decide) ?_
  refine q_ldc C (v := 1000000) dX4_init_102 hX4_init_41 ?_
  refine i_iast C 15 rfl (by unfold vp_in; decide) dX4_init_104 (L' := [(h0, .inr (4, [.ref q7, .ref q15, .ref q23, .ref q33, .ref q43, .ref q53, .int 0, .int 0])), (q7, .inl (cy 1, 14, .inl (fun _ => 0))), (q15, .inl (cy 1, 6, .inl (fun _ => 0))), (q23, .inl (cy 1, 6, .inl (fun _ => 0))), (q33, .inl (cy 5, 6, .inr (.inr (.inr (.inr (aaF r33)))))), ((r33 0), .inl (cy 0, 60, .inl (fun _ => 0))), ((r33 1), .inl (cy 0, 60, .inl (fun _ => 0))), ((r33 2), .inl (cy 0, 60, .inl (fun _ => 0))), ((r33 3), .inl (cy 0, 60, .inl (fun _ => 0))), ((r33 4), .inl (cy 0, 60, .inl (fun _ => 0))), ((r33 5), .inl (cy 0, 60, .inl (fun _ => 0))), (q43, .inl (cy 1, 6, .inl (fun _ => 0))), (q53, .inl (cy 6, 6, .inr (.inr (.inr (.inr (aaF r53)))))), ((r53 0), .inl (cy 1, 6, .inl (upd (upd (upd (upd (upd (upd (fun _ => 0) 0 0) 1 1000000) 2 1000000) 3 1000000) 4 1000000) 5 1000000))), ((r53 1), .inl (cy 1, 6, .inl (upd (upd (upd (upd (upd (upd (fun _ => 0) 0 1000000) 1 0) 2 1000000) 3 1000000) 4 1000000) 5 1000000))), ((r53 2), .inl (cy 1, 6, .inl (upd (upd (upd (upd (fun _ => 0) 0 1000000) 1 1000000) 2 0) 3 1000000))), ((r53 3), .inl (cy 1, 6, .inl (fun _ => 0))), ((r53 4), .inl (cy 1, 6, .inl (fun _ => 0))), ((r53 5), .inl (cy 1, 6, .inl (fun _ => 0)))]) rfl (fun C => ?_)
  refine i_iinc C dX4_init_105 2 rfl (by decide) (v := 4) (by decide) (lv' := [(0, .ref h0), (1, .int 2), (2, .int 4)]) rfl ?_
  refine q_goto C (tgt := 80) dX4_init_108 (by decide) ?_
  refine q_iload_n C dX4_init_80 rfl 2 rfl ?_
  refine q_bipush C (v := 6) dX4_init_81 (by decide) ?_
  refine i_icmp_ge_f C dX4_init_83 (by decide) ?_
  refine q_aload_n C dX4_init_86 rfl 0 rfl ?_
  refine i_get C (Cn := RX4) (T := TX4) (Nf := 8) (ci := 4) (k := 5) (v := .ref q53) nX4_init_X4 0 rfl rfl (by decide) rfl hX4_init_31 dX4_init_87 ?_
  refine q_iload_n C dX4_init_90 rfl 1 rfl ?_
  refine i_aald C 12 (r := r53 2) (t0 := 6) (ty := .array .int) rfl rfl rfl (by unfold vp_in; decide) rfl dX4_init_91 ?_
  refine q_iload_n C dX4_init_92 rfl 2 rfl ?_
  refine q_iload_n C dX4_init_93 rfl 1 rfl ?_
  refine q_iload_n C dX4_init_94 rfl 2 rfl ?_
  refine i_icmp_ne_t C (tgt := 102) dX4_init_95 (by decide) (by decide) ?_
  refine q_ldc C (v := 1000000) dX4_init_102 hX4_init_41 ?_
  refine i_iast C 15 rfl (by unfold vp_in; decide) dX4_init_104 (L' := [(h0, .inr (4, [.ref q7, .ref q15, .ref q23, .ref q33, .ref q43, .ref q53, .int 0, .int 0])), (q7, .inl (cy 1, 14, .inl (fun _ => 0))), (q15, .inl (cy 1, 6, .inl (fun _ => 0))), (q23, .inl (cy 1, 6, .inl (fun _ => 0))), (q33, .inl (cy 5, 6, .inr (.inr (.inr (.inr (aaF r33)))))), ((r33 0), .inl (cy 0, 60, .inl (fun _ => 0))), ((r33 1), .inl (cy 0, 60, .inl (fun _ => 0))), ((r33 2), .inl (cy 0, 60, .inl (fun _ => 0))), ((r33 3), .inl (cy 0, 60, .inl (fun _ => 0))), ((r33 4), .inl (cy 0, 60, .inl (fun _ => 0))), ((r33 5), .inl (cy 0, 60, .inl (fun _ => 0))), (q43, .inl (cy 1, 6, .inl (fun _ => 0))), (q53, .inl (cy 6, 6, .inr (.inr (.inr (.inr (aaF r53)))))), ((r53 0), .inl (cy 1, 6, .inl (upd (upd (upd (upd (upd (upd (fun _ => 0) 0 0) 1 1000000) 2 1000000) 3 1000000) 4 1000000) 5 1000000))), ((r53 1), .inl (cy 1, 6, .inl (upd (upd (upd (upd (upd (upd (fun _ => 0) 0 1000000) 1 0) 2 1000000) 3 1000000) 4 1000000) 5 1000000))), ((r53 2), .inl (cy 1, 6, .inl (upd (upd (upd (upd (upd (fun _ => 0) 0 1000000) 1 1000000) 2 0) 3 1000000) 4 1000000))), ((r53 3), .inl (cy 1, 6, .inl (fun _ => 0))), ((r53 4), .inl (cy 1, 6, .inl (fun _ => 0))), ((r53 5), .inl (cy 1, 6, .inl (fun _ => 0)))]) rfl (fun C => ?_)
  refine i_iinc C dX4_init_105 2 rfl (by decide) (v := 5) (by decide) (lv' := [(0, .ref h0), (1, .int 2), (2, .int 5)]) rfl ?_
  refine q_goto C (tgt := 80) dX4_init_108 (by decide) ?_
  refine q_iload_n C dX4_init_80 rfl 2 rfl ?_
  refine q_bipush C (v := 6) dX4_init_81 (by decide) ?_
  refine i_icmp_ge_f C dX4_init_83 (by decide) ?_
  refine q_aload_n C dX4_init_86 rfl 0 rfl ?_
  refine i_get C (Cn := RX4) (T := TX4) (Nf := 8) (ci := 4) (k := 5) (v := .ref q53) nX4_init_X4 0 rfl rfl (by decide) rfl hX4_init_31 dX4_init_87 ?_
  refine q_iload_n C dX4_init_90 rfl 1 rfl ?_
  refine i_aald C 12 (r := r53 2) (t0 := 6) (ty := .array .int) rfl rfl rfl (by unfold vp_in; decide) rfl dX4_init_91 ?_
  refine q_iload_n C dX4_init_92 rfl 2 rfl ?_
  refine q_iload_n C dX4_init_93 rfl 1 rfl ?_
  refine q_iload_n C dX4_init_94 rfl 2 rfl ?_
  refine i_icmp_ne_t C (tgt := 102) dX4_init_95 (by decide) (by decide) ?_
  refine q_ldc C (v := 1000000) dX4_init_102 hX4_init_41 ?_
  refine i_iast C 15 rfl (by unfold vp_in; decide) dX4_init_104 (L' := [(h0, .inr (4, [.ref q7, .ref q15, .ref q23, .ref q33, .ref q43, .ref q53, .int 0, .int 0])), (q7, .inl (cy 1, 14, .inl (fun _ => 0))), (q15, .inl (cy 1, 6, .inl (fun _ => 0))), (q23, .inl (cy 1, 6, .inl (fun _ => 0))), (q33, .inl (cy 5, 6, .inr (.inr (.inr (.inr (aaF r33)))))), ((r33 0), .inl (cy 0, 60, .inl (fun _ => 0))), ((r33 1), .inl (cy 0, 60, .inl (fun _ => 0))), ((r33 2), .inl (cy 0, 60, .inl (fun _ => 0))), ((r33 3), .inl (cy 0, 60, .inl (fun _ => 0))), ((r33 4), .inl (cy 0, 60, .inl (fun _ => 0))), ((r33 5), .inl (cy 0, 60, .inl (fun _ => 0))), (q43, .inl (cy 1, 6, .inl (fun _ => 0))), (q53, .inl (cy 6, 6, .inr (.inr (.inr (.inr (aaF r53)))))), ((r53 0), .inl (cy 1, 6, .inl (upd (upd (upd (upd (upd (upd (fun _ => 0) 0 0) 1 1000000) 2 1000000) 3 1000000) 4 1000000) 5 1000000))), ((r53 1), .inl (cy 1, 6, .inl (upd (upd (upd (upd (upd (upd (fun _ => 0) 0 1000000) 1 0) 2 1000000) 3 1000000) 4 1000000) 5 1000000))), ((r53 2), .inl (cy 1, 6, .inl (upd (upd (upd (upd (upd (upd (fun _ => 0) 0 1000000) 1 1000000) 2 0) 3 1000000) 4 1000000) 5 1000000))), ((r53 3), .inl (cy 1, 6, .inl (fun _ => 0))), ((r53 4), .inl (cy 1, 6, .inl (fun _ => 0))), ((r53 5), .inl (cy 1, 6, .inl (fun _ => 0)))]) rfl (fun C => ?_)
  refine i_iinc C dX4_init_105 2 rfl (by decide) (v := 6) (by decide) (lv' := [(0, .ref h0), (1, .int 2), (2, .int 6)]) rfl ?_
  refine q_goto C (tgt := 80) dX4_init_108 (by decide) ?_
  refine q_iload_n C dX4_init_80 rfl 2 rfl ?_
  refine q_bipush C (v := 6) dX4_init_81 (by decide) ?_
  refine i_icmp_ge_t C (tgt := 111) dX4_init_83 (by decide) (by decide) ?_
  refine i_iinc C dX4_init_111 1 rfl (by decide) (v := 3) (by decide) (lv' := [(0, .ref h0), (1, .int 3), (2, .int 6)]) rfl ?_
  refine q_goto C (tgt := 72) dX4_init_114 (by decide) ?_
  refine q_iload_n C dX4_init_72 rfl 1 rfl ?_
  refine q_bipush C (v := 6) dX4_init_73 (by decide) ?_
  refine i_icmp_ge_f C dX4_init_75 (by decide) ?_
  refine q_iconst C (v := 0) dX4_init_78 (by decide) ?_
  refine q_istore_n C dX4_init_79 rfl (by decide) (lv' := [(0, .ref h0), (1, .int 3), (2, .int 0)]) rfl ?_
  refine q_iload_n C dX4_init_80 rfl 2 rfl ?_
  refine q_bipush C (v := 6) dX4_init_81 (by decide) ?_
  refine i_icmp_ge_f C dX4_init_83 (by decide) ?_
  refine q_aload_n C dX4_init_86 rfl 0 rfl ?_
  refine i_get C (Cn := RX4) (T := TX4) (Nf := 8) (ci := 4) (k := 5) (v := .ref q53) nX4_init_X4 0 rfl rfl (by decide) rfl hX4_init_31 dX4_init_87 ?_
  refine q_iload_n C dX4_init_90 rfl 1 rfl ?_
  refine i_aald C 12 (r := r53 3) (t0 := 6) (ty := .array .int) rfl rfl rfl (by unfold vp_in; decide) rfl dX4_init_91 ?_
  refine q_iload_n C dX4_init_92 rfl 2 rfl ?_
  refine q_iload_n C dX4_init_93 rfl 1 rfl ?_
  refine q_iload_n C dX4_init_94 rfl 2 rfl ?_
  refine i_icmp_ne_t C (tgt := 102) dX4_init_95 (by decide) (by decide) ?_
  refine q_ldc C (v := 1000000) dX4_init_102 hX4_init_41 ?_
  refine i_iast C 16 rfl (by unfold vp_in; decide) dX4_init_104 (L' := [(h0, .inr (4, [.ref q7, .ref q15, .ref q23, .ref q33, .ref q43, .ref q53, .int 0, .int 0])), (q7, .inl (cy 1, 14, .inl (fun _ => 0))), (q15, .inl (cy 1, 6, .inl (fun _ => 0))), (q23, .inl (cy 1, 6, .inl (fun _ => 0))), (q33, .inl (cy 5, 6, .inr (.inr (.inr (.inr (aaF r33)))))), ((r33 0), .inl (cy 0, 60, .inl (fun _ => 0))), ((r33 1), .inl (cy 0, 60, .inl (fun _ => 0))), ((r33 2), .inl (cy 0, 60, .inl (fun _ => 0))), ((r33 3), .inl (cy 0, 60, .inl (fun _ => 0))), ((r33 4), .inl (cy 0, 60, .inl (fun _ => 0))), ((r33 5), .inl (cy 0, 60, .inl (fun _ => 0))), (q43, .inl (cy 1, 6, .inl (fun _ => 0))), (q53, .inl (cy 6, 6, .inr (.inr (.inr (.inr (aaF r53)))))), ((r53 0), .inl (cy 1, 6, .inl (upd (upd (upd (upd (upd (upd (fun _ => 0) 0 0) 1 1000000) 2 1000000) 3 1000000) 4 1000000) 5 1000000))), ((r53 1), .inl (cy 1, 6, .inl (upd (upd (upd (upd (upd (upd (fun _ => 0) 0 1000000) 1 0) 2 1000000) 3 1000000) 4 1000000) 5 1000000))), ((r53 2), .inl (cy 1, 6, .inl (upd (upd (upd (upd (upd (upd (fun _ => 0) 0 1000000) 1 1000000) 2 0) 3 1000000) 4 1000000) 5 1000000))), ((r53 3), .inl (cy 1, 6, .inl (upd (fun _ => 0) 0 1000000))), ((r53 4), .inl (cy 1, 6, .inl (fun _ => 0))), ((r53 5), .inl (cy 1, 6, .inl (fun _ => 0)))]) rfl (fun C => ?_)
  refine i_iinc C dX4_init_105 2 rfl (by decide) (v := 1) (by decide) (lv' := [(0, .ref h0), (1, .int 3), (2, .int 1)]) rfl ?_
  refine q_goto C (tgt := 80) dX4_init_108 (by decide) ?_
  refine q_iload_n C dX4_init_80 rfl 2 rfl ?_
  refine q_bipush C (v := 6) dX4_init_81 (by decide) ?_
  refine i_icmp_ge_f C dX4_init_83 (by decide) ?_
  refine q_aload_n C dX4_init_86 rfl 0 rfl ?_
  refine i_get C (Cn := RX4) (T := TX4) (Nf := 8) (ci := 4) (k := 5) (v := .ref q53) nX4_init_X4 0 rfl rfl (by decide) rfl hX4_init_31 dX4_init_87 ?_
  refine q_iload_n C dX4_init_90 rfl 1 rfl ?_
  refine i_aald C 12 (r := r53 3) (t0 := 6) (ty := .array .int) rfl rfl rfl (by unfold vp_in; decide) rfl dX4_init_91 ?_
  refine q_iload_n C dX4_init_92 rfl 2 rfl ?_
  refine q_iload_n C dX4_init_93 rfl 1 rfl ?_
  refine q_iload_n C dX4_init_94 rfl 2 rfl ?_
  refine i_icmp_ne_t C (tgt := 102) dX4_init_95 (by decide) (by decide) ?_
  refine q_ldc C (v := 1000000) dX4_init_102 hX4_init_41 ?_
  refine i_iast C 16 rfl (by unfold vp_in; decide) dX4_init_104 (L' := [(h0, .inr (4, [.ref q7, .ref q15, .ref q23, .ref q33, .ref q43, .ref q53, .int 0, .int 0])), (q7, .inl (cy 1, 14, .inl (fun _ => 0))), (q15, .inl (cy 1, 6, .inl (fun _ => 0))), (q23, .inl (cy 1, 6, .inl (fun _ => 0))), (q33, .inl (cy 5, 6, .inr (.inr (.inr (.inr (aaF r33)))))), ((r33 0), .inl (cy 0, 60, .inl (fun _ => 0))), ((r33 1), .inl (cy 0, 60, .inl (fun _ => 0))), ((r33 2), .inl (cy 0, 60, .inl (fun _ => 0))), ((r33 3), .inl (cy 0, 60, .inl (fun _ => 0))), ((r33 4), .inl (cy 0, 60, .inl (fun _ => 0))), ((r33 5), .inl (cy 0, 60, .inl (fun _ => 0))), (q43, .inl (cy 1, 6, .inl (fun _ => 0))), (q53, .inl (cy 6, 6, .inr (.inr (.inr (.inr (aaF r53)))))), ((r53 0), .inl (cy 1, 6, .inl (upd (upd (upd (upd (upd (upd (fun _ => 0) 0 0) 1 1000000) 2 1000000) 3 1000000) 4 1000000) 5 1000000))), ((r53 1), .inl (cy 1, 6, .inl (upd (upd (upd (upd (upd (upd (fun _ => 0) 0 1000000) 1 0) 2 1000000) 3 1000000) 4 1000000) 5 1000000))), ((r53 2), .inl (cy 1, 6, .inl (upd (upd (upd (upd (upd (upd (fun _ => 0) 0 1000000) 1 1000000) 2 0) 3 1000000) 4 1000000) 5 1000000))), ((r53 3), .inl (cy 1, 6, .inl (upd (upd (fun _ => 0) 0 1000000) 1 1000000))), ((r53 4), .inl (cy 1, 6, .inl (fun _ => 0))), ((r53 5), .inl (cy 1, 6, .inl (fun _ => 0)))]) rfl (fun C => ?_)
  refine i_iinc C dX4_init_105 2 rfl (by decide) (v := 2) (by decide) (lv' := [(0, .ref h0), (1, .int 3), (2, .int 2)]) rfl ?_
  refine q_goto C (tgt := 80) dX4_init_108 (by decide) ?_
  refine q_iload_n C dX4_init_80 rfl 2 rfl ?_
  refine q_bipush C (v := 6) dX4_init_81 (by decide) ?_
  refine i_icmp_ge_f C dX4_init_83 (by decide) ?_
  refine q_aload_n C dX4_init_86 rfl 0 rfl ?_
  refine i_get C (Cn := RX4) (T := TX4) (Nf := 8) (ci := 4) (k := 5) (v := .ref q53) nX4_init_X4 0 rfl rfl (by decide) rfl hX4_init_31 dX4_init_87 ?_
  refine q_iload_n C dX4_init_90 rfl 1 rfl ?_
  refine i_aald C 12 (r := r53 3) (t0 := 6) (ty := .array .int) rfl rfl rfl (by unfold vp_in; decide) rfl dX4_init_91 ?_
  refine q_iload_n C dX4_init_92 rfl 2 rfl ?_
  refine q_iload_n C dX4_init_93 rfl 1 rfl ?_
  refine q_iload_n C dX4_init_94 rfl 2 rfl ?_
  refine i_icmp_ne_t C (tgt := 102) dX4_init_95 (by decide) (by decide) ?_
  refine q_ldc C (v := 1000000) dX4_init_102 hX4_init_41 ?_
  refine i_iast C 16 rfl (by unfold vp_in; decide) dX4_init_104 (L' := [(h0, .inr (4, [.ref q7, .ref q15, .ref q23, .ref q33, .ref q43, .ref q53, .int 0, .int 0])), (q7, .inl (cy 1, 14, .inl (fun _ => 0))), (q15, .inl (cy 1, 6, .inl (fun _ => 0))), (q23, .inl (cy 1, 6, .inl (fun _ => 0))), (q33, .inl (cy 5, 6, .inr (.inr (.inr (.inr (aaF r33)))))), ((r33 0), .inl (cy 0, 60, .inl (fun _ => 0))), ((r33 1), .inl (cy 0, 60, .inl (fun _ => 0))), ((r33 2), .inl (cy 0, 60, .inl (fun _ => 0))), ((r33 3), .inl (cy 0, 60, .inl (fun _ => 0))), ((r33 4), .inl (cy 0, 60, .inl (fun _ => 0))), ((r33 5), .inl (cy 0, 60, .inl (fun _ => 0))), (q43, .inl (cy 1, 6, .inl (fun _ => 0))), (q53, .inl (cy 6, 6, .inr (.inr (.inr (.inr (aaF r53)))))), ((r53 0), .inl (cy 1, 6, .inl (upd (upd (upd (upd (upd (upd (fun _ => 0) 0 0) 1 1000000) 2 1000000) 3 1000000) 4 1000000) 5 1000000))), ((r53 1), .inl (cy 1, 6, .inl (upd (upd (upd (upd (upd (upd (fun _ => 0) 0 1000000) 1 0) 2 1000000) 3 1000000) 4 1000000) 5 1000000))), ((r53 2), .inl (cy 1, 6, .inl (upd (upd (upd (upd (upd (upd (fun _ => 0) 0 1000000) 1 1000000) 2 0) 3 1000000) 4 1000000) 5 1000000))), ((r53 3), .inl (cy 1, 6, .inl (upd (upd (upd (fun _ => 0) 0 1000000) 1 1000000) 2 1000000))), ((r53 4), .inl (cy 1, 6, .inl (fun _ => 0))), ((r53 5), .inl (cy 1, 6, .inl (fun _ => 0)))]) rfl (fun C => ?_)
  refine i_iinc C dX4_init_105 2 rfl (by decide) (v := 3) (by decide) (lv' := [(0, .ref h0), (1, .int 3), (2, .int 3)]) rfl ?_
  refine q_goto C (tgt := 80) dX4_init_108 (by decide) ?_
  refine q_iload_n C dX4_init_80 rfl 2 rfl ?_
  refine q_bipush C (v := 6) dX4_init_81 (by decide) ?_
  refine i_icmp_ge_f C dX4_init_83 (by decide) ?_
  refine q_aload_n C dX4_init_86 rfl 0 rfl ?_
  refine i_get C (Cn := RX4) (T := TX4) (Nf := 8) (ci := 4) (k := 5) (v := .ref q53) nX4_init_X4 0 rfl rfl (by decide) rfl hX4_init_31 dX4_init_87 ?_
  refine q_iload_n C dX4_init_90 rfl 1 rfl ?_
  refine i_aald C 12 (r := r53 3) (t0 := 6) (ty := .array .int) rfl rfl rfl (by unfold vp_in; decide) rfl dX4_init_91 ?_
  refine q_iload_n C dX4_init_92 rfl 2 rfl ?_
  refine q_iload_n C dX4_init_93 rfl 1 rfl ?_
  refine q_iload_n C dX4_init_94 rfl 2 rfl ?_
  refine i_icmp_ne_f C dX4_init_95 (by decide) ?_
  refine q_iconst C (v := 0) dX4_init_98 (by decide) ?_
  refine q_goto C (tgt := 104) dX4_init_99 (by decide) ?_
  refine i_iast C 16 rfl (by unfold vp_in; decide) dX4_init_104 (L' := [(h0, .inr (4, [.ref q7, .ref q15, .ref q23, .ref q33, .ref q43, .ref q53, .int 0, .int 0])), (q7, .inl (cy 1, 14, .inl (fun _ => 0))), (q15, .inl (cy 1, 6, .inl (fun _ => 0))), (q23, .inl (cy 1, 6, .inl (fun _ => 0))), (q33, .inl (cy 5, 6, .inr (.inr (.inr (.inr (aaF r33)))))), ((r33 0), .inl (cy 0, 60, .inl (fun _ => 0))), ((r33 1), .inl (cy 0, 60, .inl (fun _ => 0))), ((r33 2), .inl (cy 0, 60, .inl (fun _ => 0))), ((r33 3), .inl (cy 0, 60, .inl (fun _ => 0))), ((r33 4), .inl (cy 0, 60, .inl (fun _ => 0))), ((r33 5), .inl (cy 0, 60, .inl (fun _ => 0))), (q43, .inl (cy 1, 6, .inl (fun _ => 0))), (q53, .inl (cy 6, 6, .inr (.inr (.inr (.inr (aaF r53)))))), ((r53 0), .inl (cy 1, 6, .inl (upd (upd (upd (upd (upd (upd (fun _ => 0) 0 0) 1 1000000) 2 1000000) 3 1000000) 4 1000000) 5 1000000))), ((r53 1), .inl (cy 1, 6, .inl (upd (upd (upd (upd (upd (upd (fun _ => 0) 0 1000000) 1 0) 2 1000000) 3 1000000) 4 1000000) 5 1000000))), ((r53 2), .inl (cy 1, 6, .inl (upd (upd (upd (upd (upd (upd (fun _ => 0) 0 1000000) 1 1000000) 2 0) 3 1000000) 4 1000000) 5 1000000))), ((r53 3), .inl (cy 1, 6, .inl (upd (upd (upd (upd (fun _ => 0) 0 1000000) 1 1000000) 2 1000000) 3 0))), ((r53 4), .inl (cy 1, 6, .inl (fun _ => 0))), ((r53 5), .inl (cy 1, 6, .inl (fun _ => 0)))]) rfl (fun C => ?_)
  refine i_iinc C dX4_init_105 2 rfl (by decide) (v := 4) (by decide) (lv' := [(0, .ref h0), (1, .int 3), (2, .int 4)]) rfl ?_
  refine q_goto C (tgt := 80) dX4_init_108 (by decide) ?_
  refine q_iload_n C dX4_init_80 rfl 2 rfl ?_
  refine q_bipush C (v := 6) dX4_init_81 (by decide) ?_
  refine i_icmp_ge_f C dX4_init_83 (by decide) ?_
  refine q_aload_n C dX4_init_86 rfl 0 rfl ?_
  refine i_get C (Cn := RX4) (T := TX4) (Nf := 8) (ci := 4) (k := 5) (v := .ref q53) nX4_init_X4 0 rfl rfl (by decide) rfl hX4_init_31 dX4_init_87 ?_
  refine q_iload_n C dX4_init_90 rfl 1 rfl ?_
  refine i_aald C 12 (r := r53 3) (t0 := 6) (ty := .array .int) rfl rfl rfl (by unfold vp_in; decide) rfl dX4_init_91 ?_
  refine q_iload_n C dX4_init_92 rfl 2 rfl ?_
  refine q_iload_n C dX4_init_93 rfl 1 rfl ?_
  refine q_iload_n C dX4_init_94 rfl 2 rfl ?_
  refine i_icmp_ne_t C (tgt := 102) dX4_init_95 (by decide) (by decide) ?_
  refine q_ldc C (v := 1000000) dX4_init_102 hX4_init_41 ?_
  refine i_iast C 16 rfl (by unfold vp_in; decide) dX4_init_104 (L' := [(h0, .inr (4, [.ref q7, .ref q15, .ref q23, .ref q33, .ref q43, .ref q53, .int 0, .int 0])), (q7, .inl (cy 1, 14, .inl (fun _ => 0))), (q15, .inl (cy 1, 6, .inl (fun _ => 0))), (q23, .inl (cy 1, 6, .inl (fun _ => 0))), (q33, .inl (cy 5, 6, .inr (.inr (.inr (.inr (aaF r33)))))), ((r33 0), .inl (cy 0, 60, .inl (fun _ => 0))), ((r33 1), .inl (cy 0, 60, .inl (fun _ => 0))), ((r33 2), .inl (cy 0, 60, .inl (fun _ => 0))), ((r33 3), .inl (cy 0, 60, .inl (fun _ => 0))), ((r33 4), .inl (cy 0, 60, .inl (fun _ => 0))), ((r33 5), .inl (cy 0, 60, .inl (fun _ => 0))), (q43, .inl (cy 1, 6, .inl (fun _ => 0))), (q53, .inl (cy 6, 6, .inr (.inr (.inr (.inr (aaF r53)))))), ((r53 0), .inl (cy 1, 6, .inl (upd (upd (upd (upd (upd (upd (fun _ => 0) 0 0) 1 1000000) 2 1000000) 3 1000000) 4 1000000) 5 1000000))), ((r53 1), .inl (cy 1, 6, .inl (upd (upd (upd (upd (upd (upd (fun _ => 0) 0 1000000) 1 0) 2 1000000) 3 1000000) 4 1000000) 5 1000000))), ((r53 2), .inl (cy 1, 6, .inl (upd (upd (upd (upd (upd (upd (fun _ => 0) 0 1000000) 1 1000000) 2 0) 3 1000000) 4 1000000) 5 1000000))), ((r53 3), .inl (cy 1, 6, .inl (upd (upd (upd (upd (upd (fun _ => 0) 0 1000000) 1 1000000) 2 1000000) 3 0) 4 1000000))), ((r53 4), .inl (cy 1, 6, .inl (fun _ => 0))), ((r53 5), .inl (cy 1, 6, .inl (fun _ => 0)))]) rfl (fun C => ?_)
  refine i_iinc C dX4_init_105 2 rfl (by decide) (v := 5) (by decide) (lv' := [(0, .ref h0), (1, .int 3), (2, .int 5)]) rfl ?_
  refine q_goto C (tgt := 80) dX4_init_108 (by decide) ?_
  refine q_iload_n C dX4_init_80 rfl 2 rfl ?_
  refine q_bipush C (v := 6) dX4_init_81 (by decide) ?_
  refine i_icmp_ge_f C dX4_init_83 (by decide) ?_
  refine q_aload_n C dX4_init_86 rfl 0 rfl ?_
  refine i_get C (Cn := RX4) (T := TX4) (Nf := 8) (ci := 4) (k := 5) (v := .ref q53) nX4_init_X4 0 rfl rfl (by decide) rfl hX4_init_31 dX4_init_87 ?_
  refine q_iload_n C dX4_init_90 rfl 1 rfl ?_
  refine i_aald C 12 (r := r53 3) (t0 := 6) (ty := .array .int) rfl rfl rfl (by unfold vp_in; decide) rfl dX4_init_91 ?_
  refine q_iload_n C dX4_init_92 rfl 2 rfl ?_
  refine q_iload_n C dX4_init_93 rfl 1 rfl ?_
  refine q_iload_n C dX4_init_94 rfl 2 rfl ?_
  refine i_icmp_ne_t C (tgt := 102) dX4_init_95 (by decide) (by decide) ?_
  refine q_ldc C (v := 1000000) dX4_init_102 hX4_init_41 ?_
  refine i_iast C 16 rfl (by unfold vp_in; decide) dX4_init_104 (L' := [(h0, .inr (4, [.ref q7, .ref q15, .ref q23, .ref q33, .ref q43, .ref q53, .int 0, .int 0])), (q7, .inl (cy 1, 14, .inl (fun _ => 0))), (q15, .inl (cy 1, 6, .inl (fun _ => 0))), (q23, .inl (cy 1, 6, .inl (fun _ => 0))), (q33, .inl (cy 5, 6, .inr (.inr (.inr (.inr (aaF r33)))))), ((r33 0), .inl (cy 0, 60, .inl (fun _ => 0))), ((r33 1), .inl (cy 0, 60, .inl (fun _ => 0))), ((r33 2), .inl (cy 0, 60, .inl (fun _ => 0))), ((r33 3), .inl (cy 0, 60, .inl (fun _ => 0))), ((r33 4), .inl (cy 0, 60, .inl (fun _ => 0))), ((r33 5), .inl (cy 0, 60, .inl (fun _ => 0))), (q43, .inl (cy 1, 6, .inl (fun _ => 0))), (q53, .inl (cy 6, 6, .inr (.inr (.inr (.inr (aaF r53)))))), ((r53 0), .inl (cy 1, 6, .inl (upd (upd (upd (upd (upd (upd (fun _ => 0) 0 0) 1 1000000) 2 1000000) 3 1000000) 4 1000000) 5 1000000))), ((r53 1), .inl (cy 1, 6, .inl (upd (upd (upd (upd (upd (upd (fun _ => 0) 0 1000000) 1 0) 2 1000000) 3 1000000) 4 1000000) 5 1000000))), ((r53 2), .inl (cy 1, 6, .inl (upd (upd (upd (upd (upd (upd (fun _ => 0) 0 1000000) 1 1000000) 2 0) 3 1000000) 4 1000000) 5 1000000))), ((r53 3), .inl (cy 1, 6, .inl (upd (upd (upd (upd (upd (upd (fun _ => 0) 0 1000000) 1 1000000) 2 1000000) 3 0) 4 1000000) 5 1000000))), ((r53 4), .inl (cy 1, 6, .inl (fun _ => 0))), ((r53 5), .inl (cy 1, 6, .inl (fun _ => 0)))]) rfl (fun C => ?_)
  refine i_iinc C dX4_init_105 2 rfl (by decide) (v := 6) (by decide) (lv' := [(0, .ref h0), (1, .int 3), (2, .int 6)]) rfl ?_
  refine q_goto C (tgt := 80) dX4_init_108 (by decide) ?_
  refine q_iload_n C dX4_init_80 rfl 2 rfl ?_
  refine q_bipush C (v := 6) dX4_init_81 (by decide) ?_
  refine i_icmp_ge_t C (tgt := 111) dX4_init_83 (by decide) (by decide) ?_
  refine i_iinc C dX4_init_111 1 rfl (by decide) (v := 4) (by decide) (lv' := [(0, .ref h0), (1, .int 4), (2, .int 6)]) rfl ?_
  refine q_goto C (tgt := 72) dX4_init_114 (by decide) ?_
  refine q_iload_n C dX4_init_72 rfl 1 rfl ?_
  refine q_bipush C (v := 6) dX4_init_73 (by decide) ?_
  refine i_icmp_ge_f C dX4_init_75 (by decide) ?_
  refine q_iconst C (v := 0) dX4_init_78 (by decide) ?_
  refine q_istore_n C dX4_init_79 rfl (by decide) (lv' := [(0, .ref h0), (1, .int 4), (2, .int 0)]) rfl ?_
  refine q_iload_n C dX4_init_80 rfl 2 rfl ?_
  refine q_bipush C (v := 6) dX4_init_81 (by decide) ?_
  refine i_icmp_ge_f C dX4_init_83 (by decide) ?_
  refine q_aload_n C dX4_init_86 rfl 0 rfl ?_
  refine i_get C (Cn := RX4) (T := TX4) (Nf := 8) (ci := 4) (k := 5) (v := .ref q53) nX4_init_X4 0 rfl rfl (by decide) rfl hX4_init_31 dX4_init_87 ?_
  refine q_iload_n C dX4_init_90 rfl 1 rfl ?_
  refine i_aald C 12 (r := r53 4) (t0 := 6) (ty := .array .int) rfl rfl rfl (by unfold vp_in; decide) rfl dX4_init_91 ?_
  refine q_iload_n C dX4_init_92 rfl 2 rfl ?_
  refine q_iload_n C dX4_init_93 rfl 1 rfl ?_
  refine q_iload_n C dX4_init_94 rfl 2 rfl ?_
  refine i_icmp_ne_t C (tgt := 102) dX4_init_95 (by decide) (by decide) ?_
  refine q_ldc C (v := 1000000) dX4_init_102 hX4_init_41 ?_
  refine i_iast C 17 rfl (by unfold vp_in; decide) dX4_init_104 (L' := [(h0, .inr (4, [.ref q7, .ref q15, .ref q23, .ref q33, .ref q43, .ref q53, .int 0, .int 0])), (q7, .inl (cy 1, 14, .inl (fun _ => 0))), (q15, .inl (cy 1, 6, .inl (fun _ => 0))), (q23, .inl (cy 1, 6, .inl (fun _ => 0))), (q33, .inl (cy 5, 6, .inr (.inr (.inr (.inr (aaF r33)))))), ((r33 0), .inl (cy 0, 60, .inl (fun _ => 0))), ((r33 1), .inl (cy 0, 60, .inl (fun _ => 0))), ((r33 2), .inl (cy 0, 60, .inl (fun _ => 0))), ((r33 3), .inl (cy 0, 60, .inl (fun _ => 0))), ((r33 4), .inl (cy 0, 60, .inl (fun _ => 0))), ((r33 5), .inl (cy 0, 60, .inl (fun _ => 0))), (q43, .inl (cy 1, 6, .inl (fun _ => 0))), (q53, .inl (cy 6, 6, .inr (.inr (.inr (.inr (aaF r53)))))), ((r53 0), .inl (cy 1, 6, .inl (upd (upd (upd (upd (upd (upd (fun _ => 0) 0 0) 1 1000000) 2 1000000) 3 1000000) 4 1000000) 5 1000000))), ((r53 1), .inl (cy 1, 6, .inl (upd (upd (upd (upd (upd (upd (fun _ => 0) 0 1000000) 1 0) 2 1000000) 3 1000000) 4 1000000) 5 1000000))), ((r53 2), .inl (cy 1, 6, .inl (upd (upd (upd (upd (upd (upd (fun _ => 0) 0 1000000) 1 1000000) 2 0) 3 1000000) 4 1000000) 5 1000000))), ((r53 3), .inl (cy 1, 6, .inl (upd (upd (upd (upd (upd (upd (fun _ => 0) 0 1000000) 1 1000000) 2 1000000) 3 0) 4 1000000) 5 1000000))), ((r53 4), .inl (cy 1, 6, .inl (upd (fun _ => 0) 0 1000000))), ((r53 5), .inl (cy 1, 6, .inl (fun _ => 0)))]) rfl (fun C => ?_)
  refine i_iinc C dX4_init_105 2 rfl (by decide) (v := 1) (by decide) (lv' := [(0, .ref h0), (1, .int 4), (2, .int 1)]) rfl ?_
  refine q_goto C (tgt := 80) dX4_init_108 (by decide) ?_
  refine q_iload_n C dX4_init_80 rfl 2 rfl ?_
  refine q_bipush C (v := 6) dX4_init_81 (by decide) ?_
  refine i_icmp_ge_f C dX4_init_83 (by decide) ?_
  refine q_aload_n C dX4_init_86 rfl 0 rfl ?_
  refine i_get C (Cn := RX4) (T := TX4) (Nf := 8) (ci := 4) (k := 5) (v := .ref q53) nX4_init_X4 0 rfl rfl (by decide) rfl hX4_init_31 dX4_init_87 ?_
  refine q_iload_n C dX4_init_90 rfl 1 rfl ?_
  refine i_aald C 12 (r := r53 4) (t0 := 6) (ty := .array .int) rfl rfl rfl (by unfold vp_in; decide) rfl dX4_init_91 ?_
  refine q_iload_n C dX4_init_92 rfl 2 rfl ?_
  refine q_iload_n C dX4_init_93 rfl 1 rfl ?_
  refine q_iload_n C dX4_init_94 rfl 2 rfl ?_
  refine i_icmp_ne_t C (tgt := 102) dX4_init_95 (by decide) (by decide) ?_
  refine q_ldc C (v := 1000000) dX4_init_102 hX4_init_41 ?_
  refine i_iast C 17 rfl (by unfold vp_in; decide) dX4_init_104 (L' := [(h0, .inr (4, [.ref q7, .ref q15, .ref q23, .ref q33, .ref q43, .ref q53, .int 0, .int 0])), (q7, .inl (cy 1, 14, .inl (fun _ => 0))), (q15, .inl (cy 1, 6, .inl (fun _ => 0))), (q23, .inl (cy 1, 6, .inl (fun _ => 0))), (q33, .inl (cy 5, 6, .inr (.inr (.inr (.inr (aaF r33)))))), ((r33 0), .inl (cy 0, 60, .inl (fun _ => 0))), ((r33 1), .inl (cy 0, 60, .inl (fun _ => 0))), ((r33 2), .inl (cy 0, 60, .inl (fun _ => 0))), ((r33 3), .inl (cy 0, 60, .inl (fun _ => 0))), ((r33 4), .inl (cy 0, 60, .inl (fun _ => 0))), ((r33 5), .inl (cy 0, 60, .inl (fun _ => 0))), (q43, .inl (cy 1, 6, .inl (fun _ => 0))), (q53, .inl (cy 6, 6, .inr (.inr (.inr (.inr (aaF r53)))))), ((r53 0), .inl (cy 1, 6, .inl (upd (upd (upd (upd (upd (upd (fun _ => 0) 0 0) 1 1000000) 2 1000000) 3 1000000) 4 1000000) 5 1000000))), ((r53 1), .inl (cy 1, 6, .inl (upd (upd (upd (upd (upd (upd (fun _ => 0) 0 1000000) 1 0) 2 1000000) 3 1000000) 4 1000000) 5 1000000))), ((r53 2), .inl (cy 1, 6, .inl (upd (upd (upd (upd (upd (upd (fun _ => 0) 0 1000000) 1 1000000) 2 0) 3 1000000) 4 1000000) 5 1000000))), ((r53 3), .inl (cy 1, 6, .inl (upd (upd (upd (upd (upd (upd (fun _ => 0) 0 1000000) 1 1000000) 2 1000000) 3 0) 4 1000000) 5 1000000))), ((r53 4), .inl (cy 1, 6, .inl (upd (upd (fun _ => 0) 0 1000000) 1 1000000))), ((r53 5), .inl (cy 1, 6, .inl (fun _ => 0)))]) rfl (fun C => ?_)
  refine i_iinc C dX4_init_105 2 rfl (by decide) (v := 2) (by decide) (lv' := [(0, .ref h0), (1, .int 4), (2, .int 2)]) rfl ?_
  refine q_goto C (tgt := 80) dX4_init_108 (by decide) ?_
  refine q_iload_n C dX4_init_80 rfl 2 rfl ?_
  refine q_bipush C (v := 6) dX4_init_81 (by decide) ?_
  refine i_icmp_ge_f C dX4_init_83 (by decide) ?_
  refine q_aload_n C dX4_init_86 rfl 0 rfl ?_
  refine i_get C (Cn := RX4) (T := TX4) (Nf := 8) (ci := 4) (k := 5) (v := .ref q53) nX4_init_X4 0 rfl rfl (by decide) rfl hX4_init_31 dX4_init_87 ?_
  refine q_iload_n C dX4_init_90 rfl 1 rfl ?_
  refine i_aald C 12 (r := r53 4) (t0 := 6) (ty := .array .int) rfl rfl rfl (by unfold vp_in; decide) rfl dX4_init_91 ?_
  refine q_iload_n C dX4_init_92 rfl 2 rfl ?_
  refine q_iload_n C dX4_init_93 rfl 1 rfl ?_
  refine q_iload_n C dX4_init_94 rfl 2 rfl ?_
  refine i_icmp_ne_t C (tgt := 102) dX4_init_95 (by decide) (by decide) ?_
  refine q_ldc C (v := 1000000) dX4_init_102 hX4_init_41 ?_
  refine i_iast C 17 rfl (by unfold vp_in; decide) dX4_init_104 (L' := [(h0, .inr (4, [.ref q7, .ref q15, .ref q23, .ref q33, .ref q43, .ref q53, .int 0, .int 0])), (q7, .inl (cy 1, 14, .inl (fun _ => 0))), (q15, .inl (cy 1, 6, .inl (fun _ => 0))), (q23, .inl (cy 1, 6, .inl (fun _ => 0))), (q33, .inl (cy 5, 6, .inr (.inr (.inr (.inr (aaF r33)))))), ((r33 0), .inl (cy 0, 60, .inl (fun _ => 0))), ((r33 1), .inl (cy 0, 60, .inl (fun _ => 0))), ((r33 2), .inl (cy 0, 60, .inl (fun _ => 0))), ((r33 3), .inl (cy 0, 60, .inl (fun _ => 0))), ((r33 4), .inl (cy 0, 60, .inl (fun _ => 0))), ((r33 5), .inl (cy 0, 60, .inl (fun _ => 0))), (q43, .inl (cy 1, 6, .inl (fun _ => 0))), (q53, .inl (cy 6, 6, .inr (.inr (.inr (.inr (aaF r53)))))), ((r53 0), .inl (cy 1, 6, .inl (upd (upd (upd (upd (upd (upd (fun _ => 0) 0 0) 1 1000000) 2 1000000) 3 1000000) 4 1000000) 5 1000000))), ((r53 1), .inl (cy 1, 6, .inl (upd (upd (upd (upd (upd (upd (fun _ => 0) 0 1000000) 1 0) 2 1000000) 3 1000000) 4 1000000) 5 1000000))), ((r53 2), .inl (cy 1, 6, .inl (upd (upd (upd (upd (upd (upd (fun _ => 0) 0 1000000) 1 1000000) 2 0) 3 1000000) 4 1000000) 5 1000000))), ((r53 3), .inl (cy 1, 6, .inl (upd (upd (upd (upd (upd (upd (fun _ => 0) 0 1000000) 1 1000000) 2 1000000) 3 0) 4 1000000) 5 1000000))), ((r53 4), .inl (cy 1, 6, .inl (upd (upd (upd (fun _ => 0) 0 1000000) 1 1000000) 2 1000000))), ((r53 5), .inl (cy 1, 6, .inl (fun _ => 0)))]) rfl (fun C => ?_)
  refine i_iinc C dX4_init_105 2 rfl (by decide) (v := 3) (by decide) (lv' := [(0, .ref h0), (1, .int 4), (2, .int 3)]) rfl ?_
  refine q_goto C (tgt := 80) dX4_init_108 (by decide) ?_
  refine q_iload_n C dX4_init_80 rfl 2 rfl ?_
  refine q_bipush C (v := 6) dX4_init_81 (by decide) ?_
  refine i_icmp_ge_f C dX4_init_83 (by decide) ?_
  refine q_aload_n C dX4_init_86 rfl 0 rfl ?_
  refine i_get C (Cn := RX4) (T := TX4) (Nf := 8) (ci := 4) (k := 5) (v := .ref q53) nX4_init_X4 0 rfl rfl (by decide) rfl hX4_init_31 dX4_init_87 ?_
  refine q_iload_n C dX4_init_90 rfl 1 rfl ?_
  refine i_aald C 12 (r := r53 4) (t0 := 6) (ty := .array .int) rfl rfl rfl (by unfold vp_in; decide) rfl dX4_init_91 ?_
  refine q_iload_n C dX4_init_92 rfl 2 rfl ?_
  refine q_iload_n C dX4_init_93 rfl 1 rfl ?_
  refine q_iload_n C dX4_init_94 rfl 2 rfl ?_
  refine i_icmp_ne_t C (tgt := 102) dX4_init_95 (by decide) (by decide) ?_
  refine q_ldc C (v := 1000000) dX4_init_102 hX4_init_41 ?_
  refine i_iast C 17 rfl (by unfold vp_in; decide) dX4_init_104 (L' := [(h0, .inr (4, [.ref q7, .ref q15, .ref q23, .ref q33, .ref q43, .ref q53, .int 0, .int 0])), (q7, .inl (cy 1, 14, .inl (fun _ => 0))), (q15, .inl (cy 1, 6, .inl (fun _ => 0))), (q23, .inl (cy 1, 6, .inl (fun _ => 0))), (q33, .inl (cy 5, 6, .inr (.inr (.inr (.inr (aaF r33)))))), ((r33 0), .inl (cy 0, 60, .inl (fun _ => 0))), ((r33 1), .inl (cy 0, 60, .inl (fun _ => 0))), ((r33 2), .inl (cy 0, 60, .inl (fun _ => 0))), ((r33 3), .inl (cy 0, 60, .inl (fun _ => 0))), ((r33 4), .inl (cy 0, 60, .inl (fun _ => 0))), ((r33 5), .inl (cy 0, 60, .inl (fun _ => 0))), (q43, .inl (cy 1, 6, .inl (fun _ => 0))), (q53, .inl (cy 6, 6, .inr (.inr (.inr (.inr (aaF r53)))))), ((r53 0), .inl (cy 1, 6, .inl (upd (upd (upd (upd (upd (upd (fun _ => 0) 0 0) 1 1000000) 2 1000000) 3 1000000) 4 1000000) 5 1000000))), ((r53 1), .inl (cy 1, 6, .inl (upd (upd (upd (upd (upd (upd (fun _ => 0) 0 1000000) 1 0) 2 1000000) 3 1000000) 4 1000000) 5 1000000))), ((r53 2), .inl (cy 1, 6, .inl (upd (upd (upd (upd (upd (upd (fun _ => 0) 0 1000000) 1 1000000) 2 0) 3 1000000) 4 1000000) 5 1000000))), ((r53 3), .inl (cy 1, 6, .inl (upd (upd (upd (upd (upd (upd (fun _ => 0) 0 1000000) 1 1000000) 2 1000000) 3 0) 4 1000000) 5 1000000))), ((r53 4), .inl (cy 1, 6, .inl (upd (upd (upd (upd (fun _ => 0) 0 1000000) 1 1000000) 2 1000000) 3 1000000))), ((r53 5), .inl (cy 1, 6, .inl (fun _ => 0)))]) rfl (fun C => ?_)
  refine i_iinc C dX4_init_105 2 rfl (by decide) (v := 4) (by decide) (lv' := [(0, .ref h0), (1, .int 4), (2, .int 4)]) rfl ?_
  refine q_goto C (tgt := 80) dX4_init_108 (by decide) ?_
  refine q_iload_n C dX4_init_80 rfl 2 rfl ?_
  refine q_bipush C (v := 6) dX4_init_81 (by decide) ?_
  refine i_icmp_ge_f C dX4_init_83 (by decide) ?_
  refine q_aload_n C dX4_init_86 rfl 0 rfl ?_
  refine i_get C (Cn := RX4) (T := TX4) (Nf := 8) (ci := 4) (k := 5) (v := .ref q53) nX4_init_X4 0 rfl rfl (by decide) rfl hX4_init_31 dX4_init_87 ?_
  refine q_iload_n C dX4_init_90 rfl 1 rfl ?_
  refine i_aald C 12 (r := r53 4) (t0 := 6) (ty := .array .int) rfl rfl rfl (by unfold vp_in; decide) rfl dX4_init_91 ?_
  refine q_iload_n C dX4_init_92 rfl 2 rfl ?_
  refine q_iload_n C dX4_init_93 rfl 1 rfl ?_
  refine q_iload_n C dX4_init_94 rfl 2 rfl ?_
  refine i_icmp_ne_f C dX4_init_95 (by decide) ?_
  refine q_iconst C (v := 0) dX4_init_98 (by decide) ?_
  refine q_goto C (tgt := 104) dX4_init_99 (by decide) ?_
  refine i_iast C 17 rfl (by unfold vp_in; decide) dX4_init_104 (L' := [(h0, .inr (4, [.ref q7, .ref q15, .ref q23, .ref q33, .ref q43, .ref q53, .int 0, .int 0])), (q7, .inl (cy 1, 14, .inl (fun _ => 0))), (q15, .inl (cy 1, 6, .inl (fun _ => 0))), (q23, .inl (cy 1, 6, .inl (fun _ => 0))), (q33, .inl (cy 5, 6, .inr (.inr (.inr (.inr (aaF r33)))))), ((r33 0), .inl (cy 0, 60, .inl (fun _ => 0))), ((r33 1), .inl (cy 0, 60, .inl (fun _ => 0))), ((r33 2), .inl (cy 0, 60, .inl (fun _ => 0))), ((r33 3), .inl (cy 0, 60, .inl (fun _ => 0))), ((r33 4), .inl (cy 0, 60, .inl (fun _ => 0))), ((r33 5), .inl (cy 0, 60, .inl (fun _ => 0))), (q43, .inl (cy 1, 6, .inl (fun _ => 0))), (q53, .inl (cy 6, 6, .inr (.inr (.inr (.inr (aaF r53)))))), ((r53 0), .inl (cy 1, 6, .inl (upd (upd (upd (upd (upd (upd (fun _ => 0) 0 0) 1 1000000) 2 1000000) 3 1000000) 4 1000000) 5 1000000))), ((r53 1), .inl (cy 1, 6, .inl (upd (upd (upd (upd (upd (upd (fun _ => 0) 0 1000000) 1 0) 2 1000000) 3 1000000) 4 1000000) 5 1000000))), ((r53 2), .inl (cy 1, 6, .inl (upd (upd (upd (upd (upd (upd (fun _ => 0) 0 1000000) 1 1000000) 2 0) 3 1000000) 4 1000000) 5 1000000))), ((r53 3), .inl (cy 1, 6, .inl (upd (upd (upd (upd (upd (upd (fun _ => 0) 0 1000000) 1 1000000) 2 1000000) 3 0) 4 1000000) 5 1000000))), ((r53 4), .inl (cy 1, 6, .inl (upd (upd (upd (upd (upd (fun _ => 0) 0 1000000) 1 1000000) 2 1000000) 3 1000000) 4 0))), ((r53 5), .inl (cy 1, 6, .inl (fun _ => 0)))]) rfl (fun C => ?_)
  refine i_iinc C dX4_init_105 2 rfl (by decide) (v := 5) (by decide) (lv' := [(0, .ref h0), (1, .int 4), (2, .int 5)]) rfl ?_
  refine q_goto C (tgt := 80) dX4_init_108 (by decide) ?_
  refine q_iload_n C dX4_init_80 rfl 2 rfl ?_
  refine q_bipush C (v := 6) dX4_init_81 (by decide) ?_
  refine i_icmp_ge_f C dX4_init_83 (by decide) ?_
  refine q_aload_n C dX4_init_86 rfl 0 rfl ?_
  refine i_get C (Cn := RX4) (T := TX4) (Nf := 8) (ci := 4) (k := 5) (v := .ref q53) nX4_init_X4 0 rfl rfl (by decide) rfl hX4_init_31 dX4_init_87 ?_
  refine q_iload_n C dX4_init_90 rfl 1 rfl ?_
  refine i_aald C 12 (r := r53 4) (t0 := 6) (ty := .array .int) rfl rfl rfl (by unfold vp_in; decide) rfl dX4_init_91 ?_
  refine q_iload_n C dX4_init_92 rfl 2 rfl ?_
  refine q_iload_n C dX4_init_93 rfl 1 rfl ?_
  refine q_iload_n C dX4_init_94 rfl 2 rfl ?_
  refine i_icmp_ne_t C (tgt := 102) dX4_init_95 (by decide) (by decide) ?_
  refine q_ldc C (v := 1000000) dX4_init_102 hX4_init_41 ?_
  refine i_iast C 17 rfl (by unfold vp_in; decide) dX4_init_104 (L' := [(h0, .inr (4, [.ref q7, .ref q15, .ref q23, .ref q33, .ref q43, .ref q53, .int 0, .int 0])), (q7, .inl (cy 1, 14, .inl (fun _ => 0))), (q15, .inl (cy 1, 6, .inl (fun _ => 0))), (q23, .inl (cy 1, 6, .inl (fun _ => 0))), (q33, .inl (cy 5, 6, .inr (.inr (.inr (.inr (aaF r33)))))), ((r33 0), .inl (cy 0, 60, .inl (fun _ => 0))), ((r33 1), .inl (cy 0, 60, .inl (fun _ => 0))), ((r33 2), .inl (cy 0, 60, .inl (fun _ => 0))), ((r33 3), .inl (cy 0, 60, .inl (fun _ => 0))), ((r33 4), .inl (cy 0, 60, .inl (fun _ => 0))), ((r33 5), .inl (cy 0, 60, .inl (fun _ => 0))), (q43, .inl (cy 1, 6, .inl (fun _ => 0))), (q53, .inl (cy 6, 6, .inr (.inr (.inr (.inr (aaF r53)))))), ((r53 0), .inl (cy 1, 6, .inl (upd (upd (upd (upd (upd (upd (fun _ => 0) 0 0) 1 1000000) 2 1000000) 3 1000000) 4 1000000) 5 1000000))), ((r53 1), .inl (cy 1, 6, .inl (upd (upd (upd (upd (upd (upd (fun _ => 0) 0 1000000) 1 0) 2 1000000) 3 1000000) 4 1000000) 5 1000000))), ((r53 2), .inl (cy 1, 6, .inl (upd (upd (upd (upd (upd (upd (fun _ => 0) 0 1000000) 1 1000000) 2 0) 3 1000000) 4 1000000) 5 1000000))), ((r53 3), .inl (cy 1, 6, .inl (upd (upd (upd (upd (upd (upd (fun _ => 0) 0 1000000) 1 1000000) 2 1000000) 3 0) 4 1000000) 5 1000000))), ((r53 4), .inl (cy 1, 6, .inl (upd (upd (upd (upd (upd (upd (fun _ => 0) 0 1000000) 1 1000000) 2 1000000) 3 1000000) 4 0) 5 1000000))), ((r53 5), .inl (cy 1, 6, .inl (fun _ => 0)))]) rfl (fun C => ?_)
  refine i_iinc C dX4_init_105 2 rfl (by decide) (v := 6) (by decide) (lv' := [(0, .ref h0), (1, .int 4), (2, .int 6)]) rfl ?_
  refine q_goto C (tgt := 80) dX4_init_108 (by decide) ?_
  refine q_iload_n C dX4_init_80 rfl 2 rfl ?_
  refine q_bipush C (v := 6) dX4_init_81 (by decide) ?_
  refine i_icmp_ge_t C (tgt := 111) dX4_init_83 (by decide) (by decide) ?_
  refine i_iinc C dX4_init_111 1 rfl (by decide) (v := 5) (by decide) (lv' := [(0, .ref h0), (1, .int 5), (2, .int 6)]) rfl ?_
  refine q_goto C (tgt := 72) dX4_init_114 (by decide) ?_
  refine q_iload_n C dX4_init_72 rfl 1 rfl ?_
  refine q_bipush C (v := 6) dX4_init_73 (by decide) ?_
  refine i_icmp_ge_f C dX4_init_75 (by decide) ?_
  refine q_iconst C (v := 0) dX4_init_78 (by decide) ?_
  refine q_istore_n C dX4_init_79 rfl (by decide) (lv' := [(0, .ref h0), (1, .int 5), (2, .int 0)]) rfl ?_
  refine q_iload_n C dX4_init_80 rfl 2 rfl ?_
  refine q_bipush C (v := 6) dX4_init_81 (by decide) ?_
  refine i_icmp_ge_f C dX4_init_83 (by decide) ?_
  refine q_aload_n C dX4_init_86 rfl 0 rfl ?_
  refine i_get C (Cn := RX4) (T := TX4) (Nf := 8) (ci := 4) (k := 5) (v := .ref q53) nX4_init_X4 0 rfl rfl (by decide) rfl hX4_init_31 dX4_init_87 ?_
  refine q_iload_n C dX4_init_90 rfl 1 rfl ?_
  refine i_aald C 12 (r := r53 5) (t0 := 6) (ty := .array .int) rfl rfl rfl (by unfold vp_in; decide) rfl dX4_init_91 ?_
  refine q_iload_n C dX4_init_92 rfl 2 rfl ?_
  refine q_iload_n C dX4_init_93 rfl 1 rfl ?_
  refine q_iload_n C dX4_init_94 rfl 2 rfl ?_
  refine i_icmp_ne_t C (tgt := 102) dX4_init_95 (by decide) (by decide) ?_
  refine q_ldc C (v := 1000000) dX4_init_102 hX4_init_41 ?_
  refine i_iast C 18 rfl (by unfold vp_in; decide) dX4_init_104 (L' := [(h0, .inr (4, [.ref q7, .ref q15, .ref q23, .ref q33, .ref q43, .ref q53, .int 0, .int 0])), (q7, .inl (cy 1, 14, .inl (fun _ => 0))), (q15, .inl (cy 1, 6, .inl (fun _ => 0))), (q23, .inl (cy 1, 6, .inl (fun _ => 0))), (q33, .inl (cy 5, 6, .inr (.inr (.inr (.inr (aaF r33)))))), ((r33 0), .inl (cy 0, 60, .inl (fun _ => 0))), ((r33 1), .inl (cy 0, 60, .inl (fun _ => 0))), ((r33 2), .inl (cy 0, 60, .inl (fun _ => 0))), ((r33 3), .inl (cy 0, 60, .inl (fun _ => 0))), ((r33 4), .inl (cy 0, 60, .inl (fun _ => 0))), ((r33 5), .inl (cy 0, 60, .inl (fun _ => 0))), (q43, .inl (cy 1, 6, .inl (fun _ => 0))), (q53, .inl (cy 6, 6, .inr (.inr (.inr (.inr (aaF r53)))))), ((r53 0), .inl (cy 1, 6, .inl (upd (upd (upd (upd (upd (upd (fun _ => 0) 0 0) 1 1000000) 2 1000000) 3 1000000) 4 1000000) 5 1000000))), ((r53 1), .inl (cy 1, 6, .inl (upd (upd (upd (upd (upd (upd (fun _ => 0) 0 1000000) 1 0) 2 1000000) 3 1000000) 4 1000000) 5 1000000))), ((r53 2), .inl (cy 1, 6, .inl (upd (upd (upd (upd (upd (upd (fun _ => 0) 0 1000000) 1 1000000) 2 0) 3 1000000) 4 1000000) 5 1000000))), ((r53 3), .inl (cy 1, 6, .inl (upd (upd (upd (upd (upd (upd (fun _ => 0) 0 1000000) 1 1000000) 2 1000000) 3 0) 4 1000000) 5 1000000))), ((r53 4), .inl (cy 1, 6, .inl (upd (upd (upd (upd (upd (upd (fun _ => 0) 0 1000000) 1 1000000) 2 1000000) 3 1000000) 4 0) 5 1000000))), ((r53 5), .inl (cy 1, 6, .inl (upd (fun _ => 0) 0 1000000)))]) rfl (fun C => ?_)
  refine i_iinc C dX4_init_105 2 rfl (by decide) (v := 1) (by decide) (lv' := [(0, .ref h0), (1, .int 5), (2, .int 1)]) rfl ?_
  refine q_goto C (tgt := 80) dX4_init_108 (by decide) ?_
  refine q_iload_n C dX4_init_80 rfl 2 rfl ?_
  refine q_bipush C (v := 6) dX4_init_81 (by decide) ?_
  refine i_icmp_ge_f C dX4_init_83 (by decide) ?_
  refine q_aload_n C dX4_init_86 rfl 0 rfl ?_
  refine i_get C (Cn := RX4) (T := TX4) (Nf := 8) (ci := 4) (k := 5) (v := .ref q53) nX4_init_X4 0 rfl rfl (by decide) rfl hX4_init_31 dX4_init_87 ?_
  refine q_iload_n C dX4_init_90 rfl 1 rfl ?_
  refine i_aald C 12 (r := r53 5) (t0 := 6) (ty := .array .int) rfl rfl rfl (by unfold vp_in; decide) rfl dX4_init_91 ?_
  refine q_iload_n C dX4_init_92 rfl 2 rfl ?_
  refine q_iload_n C dX4_init_93 rfl 1 rfl ?_
  refine q_iload_n C dX4_init_94 rfl 2 rfl ?_
  refine i_icmp_ne_t C (tgt := 102) dX4_init_95 (by decide) (by decide) ?_
  refine q_ldc C (v := 1000000) dX4_init_102 hX4_init_41 ?_
  refine i_iast C 18 rfl (by unfold vp_in; decide) dX4_init_104 (L' := [(h0, .inr (4, [.ref q7, .ref q15, .ref q23, .ref q33, .ref q43, .ref q53, .int 0, .int 0])), (q7, .inl (cy 1, 14, .inl (fun _ => 0))), (q15, .inl (cy 1, 6, .inl (fun _ => 0))), (q23, .inl (cy 1, 6, .inl (fun _ => 0))), (q33, .inl (cy 5, 6, .inr (.inr (.inr (.inr (aaF r33)))))), ((r33 0), .inl (cy 0, 60, .inl (fun _ => 0))), ((r33 1), .inl (cy 0, 60, .inl (fun _ => 0))), ((r33 2), .inl (cy 0, 60, .inl (fun _ => 0))), ((r33 3), .inl (cy 0, 60, .inl (fun _ => 0))), ((r33 4), .inl (cy 0, 60, .inl (fun _ => 0))), ((r33 5), .inl (cy 0, 60, .inl (fun _ => 0))), (q43, .inl (cy 1, 6, .inl (fun _ => 0))), (q53, .inl (cy 6, 6, .inr (.inr (.inr (.inr (aaF r53)))))), ((r53 0), .inl (cy 1, 6, .inl (upd (upd (upd (upd (upd (upd (fun _ => 0) 0 0) 1 1000000) 2 1000000) 3 1000000) 4 1000000) 5 1000000))), ((r53 1), .inl (cy 1, 6, .inl (upd (upd (upd (upd (upd (upd (fun _ => 0) 0 1000000) 1 0) 2 1000000) 3 1000000) 4 1000000) 5 1000000))), ((r53 2), .inl (cy 1, 6, .inl (upd (upd (upd (upd (upd (upd (fun _ => 0) 0 1000000) 1 1000000) 2 0) 3 1000000) 4 1000000) 5 1000000))), ((r53 3), .inl (cy 1, 6, .inl (upd (upd (upd (upd (upd (upd (fun _ => 0) 0 1000000) 1 1000000) 2 1000000) 3 0) 4 1000000) 5 1000000))), ((r53 4), .inl (cy 1, 6, .inl (upd (upd (upd (upd (upd (upd (fun _ => 0) 0 1000000) 1 1000000) 2 1000000) 3 1000000) 4 0) 5 1000000))), ((r53 5), .inl (cy 1, 6, .inl (upd (upd (fun _ => 0) 0 1000000) 1 1000000)))]) rfl (fun C => ?_)
  refine i_iinc C dX4_init_105 2 rfl (by decide) (v := 2) (by decide) (lv' := [(0, .ref h0), (1, .int 5), (2, .int 2)]) rfl ?_
  refine q_goto C (tgt := 80) dX4_init_108 (by decide) ?_
  refine q_iload_n C dX4_init_80 rfl 2 rfl ?_
  refine q_bipush C (v := 6) dX4_init_81 (by decide) ?_
  refine i_icmp_ge_f C dX4_init_83 (by decide) ?_
  refine q_aload_n C dX4_init_86 rfl 0 rfl ?_
  refine i_get C (Cn := RX4) (T := TX4) (Nf := 8) (ci := 4) (k := 5) (v := .ref q53) nX4_init_X4 0 rfl rfl (by decide) rfl hX4_init_31 dX4_init_87 ?_
  refine q_iload_n C dX4_init_90 rfl 1 rfl ?_
  refine i_aald C 12 (r := r53 5) (t0 := 6) (ty := .array .int) rfl rfl rfl (by unfold vp_in; decide) rfl dX4_init_91 ?_
  refine q_iload_n C dX4_init_92 rfl 2 rfl ?_
  refine q_iload_n C dX4_init_93 rfl 1 rfl ?_
  refine q_iload_n C dX4_init_94 rfl 2 rfl ?_
  refine i_icmp_ne_t C (tgt := 102) dX4_init_95 (by decide) (by decide) ?_
  refine q_ldc C (v := 1000000) dX4_init_102 hX4_init_41 ?_
  refine i_iast C 18 rfl (by unfold vp_in; decide) dX4_init_104 (L' := [(h0, .inr (4, [.ref q7, .ref q15, .ref q23, .ref q33, .ref q43, .ref q53, .int 0, .int 0])), (q7, .inl (cy 1, 14, .inl (fun _ => 0))), (q15, .inl (cy 1, 6, .inl (fun _ => 0))), (q23, .inl (cy 1, 6, .inl (fun _ => 0))), (q33, .inl (cy 5, 6, .inr (.inr (.inr (.inr (aaF r33)))))), ((r33 0), .inl (cy 0, 60, .inl (fun _ => 0))), ((r33 1), .inl (cy 0, 60, .inl (fun _ => 0))), ((r33 2), .inl (cy 0, 60, .inl (fun _ => 0))), ((r33 3), .inl (cy 0, 60, .inl (fun _ => 0))), ((r33 4), .inl (cy 0, 60, .inl (fun _ => 0))), ((r33 5), .inl (cy 0, 60, .inl (fun _ => 0))), (q43, .inl (cy 1, 6, .inl (fun _ => 0))), (q53, .inl (cy 6, 6, .inr (.inr (.inr (.inr (aaF r53)))))), ((r53 0), .inl (cy 1, 6, .inl (upd (upd (upd (upd (upd (upd (fun _ => 0) 0 0) 1 1000000) 2 1000000) 3 1000000) 4 1000000) 5 1000000))), ((r53 1), .inl (cy 1, 6, .inl (upd (upd (upd (upd (upd (upd (fun _ => 0) 0 1000000) 1 0) 2 1000000) 3 1000000) 4 1000000) 5 1000000))), ((r53 2), .inl (cy 1, 6, .inl (upd (upd (upd (upd (upd (upd (fun _ => 0) 0 1000000) 1 1000000) 2 0) 3 1000000) 4 1000000) 5 1000000))), ((r53 3), .inl (cy 1, 6, .inl (upd (upd (upd (upd (upd (upd (fun _ => 0) 0 1000000) 1 1000000) 2 1000000) 3 0) 4 1000000) 5 1000000))), ((r53 4), .inl (cy 1, 6, .inl (upd (upd (upd (upd (upd (upd (fun _ => 0) 0 1000000) 1 1000000) 2 1000000) 3 1000000) 4 0) 5 1000000))), ((r53 5), .inl (cy 1, 6, .inl (upd (upd (upd (fun _ => 0) 0 1000000) 1 1000000) 2 1000000)))]) rfl (fun C => ?_)
  refine i_iinc C dX4_init_105 2 rfl (by decide) (v := 3) (by decide) (lv' := [(0, .ref h0), (1, .int 5), (2, .int 3)]) rfl ?_
  refine q_goto C (tgt := 80) dX4_init_108 (by decide) ?_
  refine q_iload_n C dX4_init_80 rfl 2 rfl ?_
  refine q_bipush C (v := 6) dX4_init_81 (by decide) ?_
  refine i_icmp_ge_f C dX4_init_83 (by decide) ?_
  refine q_aload_n C dX4_init_86 rfl 0 rfl ?_
  refine i_get C (Cn := RX4) (T := TX4) (Nf := 8) (ci := 4) (k := 5) (v := .ref q53) nX4_init_X4 0 rfl rfl (by decide) rfl hX4_init_31 dX4_init_87 ?_
  refine q_iload_n C dX4_init_90 rfl 1 rfl ?_
  refine i_aald C 12 (r := r53 5) (t0 := 6) (ty := .array .int) rfl rfl rfl (by unfold vp_in; decide) rfl dX4_init_91 ?_
  refine q_iload_n C dX4_init_92 rfl 2 rfl ?_
  refine q_iload_n C dX4_init_93 rfl 1 rfl ?_
  refine q_iload_n C dX4_init_94 rfl 2 rfl ?_
  refine i_icmp_ne_t C (tgt := 102) dX4_init_95 (by decide) (by decide) ?_
  refine q_ldc C (v := 1000000) dX4_init_102 hX4_init_41 ?_
  refine i_iast C 18 rfl (by unfold vp_in; decide) dX4_init_104 (L' := [(h0, .inr (4, [.ref q7, .ref q15, .ref q23, .ref q33, .ref q43, .ref q53, .int 0, .int 0])), (q7, .inl (cy 1, 14, .inl (fun _ => 0))), (q15, .inl (cy 1, 6, .inl (fun _ => 0))), (q23, .inl (cy 1, 6, .inl (fun _ => 0))), (q33, .inl (cy 5, 6, .inr (.inr (.inr (.inr (aaF r33)))))), ((r33 0), .inl (cy 0, 60, .inl (fun _ => 0))), ((r33 1), .inl (cy 0, 60, .inl (fun _ => 0))), ((r33 2), .inl (cy 0, 60, .inl (fun _ => 0))), ((r33 3), .inl (cy 0, 60, .inl (fun _ => 0))), ((r33 4), .inl (cy 0, 60, .inl (fun _ => 0))), ((r33 5), .inl (cy 0, 60, .inl (fun _ => 0))), (q43, .inl (cy 1, 6, .inl (fun _ => 0))), (q53, .inl (cy 6, 6, .inr (.inr (.inr (.inr (aaF r53)))))), ((r53 0), .inl (cy 1, 6, .inl (upd (upd (upd (upd (upd (upd (fun _ => 0) 0 0) 1 1000000) 2 1000000) 3 1000000) 4 1000000) 5 1000000))), ((r53 1), .inl (cy 1, 6, .inl (upd (upd (upd (upd (upd (upd (fun _ => 0) 0 1000000) 1 0) 2 1000000) 3 1000000) 4 1000000) 5 1000000))), ((r53 2), .inl (cy 1, 6, .inl (upd (upd (upd (upd (upd (upd (fun _ => 0) 0 1000000) 1 1000000) 2 0) 3 1000000) 4 1000000) 5 1000000))), ((r53 3), .inl (cy 1, 6, .inl (upd (upd (upd (upd (upd (upd (fun _ => 0) 0 1000000) 1 1000000) 2 1000000) 3 0) 4 1000000) 5 1000000))), ((r53 4), .inl (cy 1, 6, .inl (upd (upd (upd (upd (upd (upd (fun _ => 0) 0 1000000) 1 1000000) 2 1000000) 3 1000000) 4 0) 5 1000000))), ((r53 5), .inl (cy 1, 6, .inl (upd (upd (upd (upd (fun _ => 0) 0 1000000) 1 1000000) 2 1000000) 3 1000000)))]) rfl (fun C => ?_)
  refine i_iinc C dX4_init_105 2 rfl (by decide) (v := 4) (by decide) (lv' := [(0, .ref h0), (1, .int 5), (2, .int 4)]) rfl ?_
  refine q_goto C (tgt := 80) dX4_init_108 (by decide) ?_
  refine q_iload_n C dX4_init_80 rfl 2 rfl ?_
  refine q_bipush C (v := 6) dX4_init_81 (by decide) ?_
  refine i_icmp_ge_f C dX4_init_83 (by decide) ?_
  refine q_aload_n C dX4_init_86 rfl 0 rfl ?_
  refine i_get C (Cn := RX4) (T := TX4) (Nf := 8) (ci := 4) (k := 5) (v := .ref q53) nX4_init_X4 0 rfl rfl (by decide) rfl hX4_init_31 dX4_init_87 ?_
  refine q_iload_n C dX4_init_90 rfl 1 rfl ?_
  refine i_aald C 12 (r := r53 5) (t0 := 6) (ty := .array .int) rfl rfl rfl (by unfold vp_in; decide) rfl dX4_init_91 ?_
  refine q_iload_n C dX4_init_92 rfl 2 rfl ?_
  refine q_iload_n C dX4_init_93 rfl 1 rfl ?_
  refine q_iload_n C dX4_init_94 rfl 2 rfl ?_
  refine i_icmp_ne_t C (tgt := 102) dX4_init_95 (by decide) (by decide) ?_
  refine q_ldc C (v := 1000000) dX4_init_102 hX4_init_41 ?_
  refine i_iast C 18 rfl (by unfold vp_in; decide) dX4_init_104 (L' := [(h0, .inr (4, [.ref q7, .ref q15, .ref q23, .ref q33, .ref q43, .ref q53, .int 0, .int 0])), (q7, .inl (cy 1, 14, .inl (fun _ => 0))), (q15, .inl (cy 1, 6, .inl (fun _ => 0))), (q23, .inl (cy 1, 6, .inl (fun _ => 0))), (q33, .inl (cy 5, 6, .inr (.inr (.inr (.inr (aaF r33)))))), ((r33 0), .inl (cy 0, 60, .inl (fun _ => 0))), ((r33 1), .inl (cy 0, 60, .inl (fun _ => 0))), ((r33 2), .inl (cy 0, 60, .inl (fun _ => 0))), ((r33 3), .inl (cy 0, 60, .inl (fun _ => 0))), ((r33 4), .inl (cy 0, 60, .inl (fun _ => 0))), ((r33 5), .inl (cy 0, 60, .inl (fun _ => 0))), (q43, .inl (cy 1, 6, .inl (fun _ => 0))), (q53, .inl (cy 6, 6, .inr (.inr (.inr (.inr (aaF r53)))))), ((r53 0), .inl (cy 1, 6, .inl (upd (upd (upd (upd (upd (upd (fun _ => 0) 0 0) 1 1000000) 2 1000000) 3 1000000) 4 1000000) 5 1000000))), ((r53 1), .inl (cy 1, 6, .inl (upd (upd (upd (upd (upd (upd (fun _ => 0) 0 1000000) 1 0) 2 1000000) 3 1000000) 4 1000000) 5 1000000))), ((r53 2), .inl (cy 1, 6, .inl (upd (upd (upd (upd (upd (upd (fun _ => 0) 0 1000000) 1 1000000) 2 0) 3 1000000) 4 1000000) 5 1000000))), ((r53 3), .inl (cy 1, 6, .inl (upd (upd (upd (upd (upd (upd (fun _ => 0) 0 1000000) 1 1000000) 2 1000000) 3 0) 4 1000000) 5 1000000))), ((r53 4), .inl (cy 1, 6, .inl (upd (upd (upd (upd (upd (upd (fun _ => 0) 0 1000000) 1 1000000) 2 1000000) 3 1000000) 4 0) 5 1000000))), ((r53 5), .inl (cy 1, 6, .inl (upd (upd (upd (upd (upd (fun _ => 0) 0 1000000) 1 1000000) 2 1000000) 3 1000000) 4 1000000)))]) rfl (fun C => ?_)
  refine i_iinc C dX4_init_105 2 rfl (by decide) (v := 5) (by decide) (lv' := [(0, .ref h0), (1, .int 5), (2, .int 5)]) rfl ?_
  refine q_goto C (tgt := 80) dX4_init_108 (by decide) ?_
  refine q_iload_n C dX4_init_80 rfl 2 rfl ?_
  refine q_bipush C (v := 6) dX4_init_81 (by decide) ?_
  refine i_icmp_ge_f C dX4_init_83 (by decide) ?_
  refine q_aload_n C dX4_init_86 rfl 0 rfl ?_
  refine i_get C (Cn := RX4) (T := TX4) (Nf := 8) (ci := 4) (k := 5) (v := .ref q53) nX4_init_X4 0 rfl rfl (by decide) rfl hX4_init_31 dX4_init_87 ?_
  refine q_iload_n C dX4_init_90 rfl 1 rfl ?_
  refine i_aald C 12 (r := r53 5) (t0 := 6) (ty := .array .int) rfl rfl rfl (by unfold vp_in; decide) rfl dX4_init_91 ?_
  refine q_iload_n C dX4_init_92 rfl 2 rfl ?_
  refine q_iload_n C dX4_init_93 rfl 1 rfl ?_
  refine q_iload_n C dX4_init_94 rfl 2 rfl ?_
  refine i_icmp_ne_f C dX4_init_95 (by decide) ?_
  refine q_iconst C (v := 0) dX4_init_98 (by decide) ?_
  refine q_goto C (tgt := 104) dX4_init_99 (by decide) ?_
  refine i_iast C 18 rfl (by unfold vp_in; decide) dX4_init_104 (L' := [(h0, .inr (4, [.ref q7, .ref q15, .ref q23, .ref q33, .ref q43, .ref q53, .int 0, .int 0])), (q7, .inl (cy 1, 14, .inl (fun _ => 0))), (q15, .inl (cy 1, 6, .inl (fun _ => 0))), (q23, .inl (cy 1, 6, .inl (fun _ => 0))), (q33, .inl (cy 5, 6, .inr (.inr (.inr (.inr (aaF r33)))))), ((r33 0), .inl (cy 0, 60, .inl (fun _ => 0))), ((r33 1), .inl (cy 0, 60, .inl (fun _ => 0))), ((r33 2), .inl (cy 0, 60, .inl (fun _ => 0))), ((r33 3), .inl (cy 0, 60, .inl (fun _ => 0))), ((r33 4), .inl (cy 0, 60, .inl (fun _ => 0))), ((r33 5), .inl (cy 0, 60, .inl (fun _ => 0))), (q43, .inl (cy 1, 6, .inl (fun _ => 0))), (q53, .inl (cy 6, 6, .inr (.inr (.inr (.inr (aaF r53)))))), ((r53 0), .inl (cy 1, 6, .inl (upd (upd (upd (upd (upd (upd (fun _ => 0) 0 0) 1 1000000) 2 1000000) 3 1000000) 4 1000000) 5 1000000))), ((r53 1), .inl (cy 1, 6, .inl (upd (upd (upd (upd (upd (upd (fun _ => 0) 0 1000000) 1 0) 2 1000000) 3 1000000) 4 1000000) 5 1000000))), ((r53 2), .inl (cy 1, 6, .inl (upd (upd (upd (upd (upd (upd (fun _ => 0) 0 1000000) 1 1000000) 2 0) 3 1000000) 4 1000000) 5 1000000))), ((r53 3), .inl (cy 1, 6, .inl (upd (upd (upd (upd (upd (upd (fun _ => 0) 0 1000000) 1 1000000) 2 1000000) 3 0) 4 1000000) 5 1000000))), ((r53 4), .inl (cy 1, 6, .inl (upd (upd (upd (upd (upd (upd (fun _ => 0) 0 1000000) 1 1000000) 2 1000000) 3 1000000) 4 0) 5 1000000))), ((r53 5), .inl (cy 1, 6, .inl (upd (upd (upd (upd (upd (upd (fun _ => 0) 0 1000000) 1 1000000) 2 1000000) 3 1000000) 4 1000000) 5 0)))]) rfl (fun C => ?_)
  refine i_iinc C dX4_init_105 2 rfl (by decide) (v := 6) (by decide) (lv' := [(0, .ref h0), (1, .int 5), (2, .int 6)]) rfl ?_
  refine q_goto C (tgt := 80) dX4_init_108 (by decide) ?_
  refine q_iload_n C dX4_init_80 rfl 2 rfl ?_
  refine q_bipush C (v := 6) dX4_init_81 (by decide) ?_
  refine i_icmp_ge_t C (tgt := 111) dX4_init_83 (by decide) (by decide) ?_
  refine i_iinc C dX4_init_111 1 rfl (by decide) (v := 6) (by decide) (lv' := [(0, .ref h0), (1, .int 6), (2, .int 6)]) rfl ?_
  refine q_goto C (tgt := 72) dX4_init_114 (by decide) ?_
  refine q_iload_n C dX4_init_72 rfl 1 rfl ?_
  refine q_bipush C (v := 6) dX4_init_73 (by decide) ?_
  refine i_icmp_ge_t C (tgt := 117) dX4_init_75 (by decide) (by decide) ?_
  exact i_vret C (fun i => if i = 1 then q7 else if i = 2 then q15 else if i = 3 then q23 else if i = 4 then q33 else if i = 5 then (r33 0) else if i = 6 then (r33 1) else if i = 7 then (r33 2) else if i = 8 then (r33 3) else if i = 9 then (r33 4) else if i = 10 then (r33 5) else if i = 11 then q43 else if i = 12 then q53 else if i = 13 then (r53 0) else if i = 14 then (r53 1) else if i = 15 then (r53 2) else if i = 16 then (r53 3) else if i = 17 then (r53 4) else if i = 18 then (r53 5) else 0) rfl dX4_init_117
