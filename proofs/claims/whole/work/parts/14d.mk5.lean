def WX5 (cy : Nat → ClassId) (h0 : Nat) (ad : Nat → Nat) : va_W := ((((((((((((([(h0, .inr (5, [.ref (ad 1), .int 0, .int (-1), .ref (ad 2), .ref (ad 21), .ref (ad 33), .ref (ad 91), .ref (ad 34), .ref (ad 36), .ref (ad 60)])), ((ad 1), .inl (cy 0, 2000, .inl (fun _ => 0)))] ++ WX4 cy (ad 2) (fun i => ad (2 + i))) ++ WX0 cy (ad 21) (ad 2) (fun i => ad (21 + i))) ++ [((ad 33), .inl (cy 4, 6, .inr (.inr (.inr (.inr (va_up (va_up (va_up (va_up (va_up (va_up (fun _ => none) 0 (some (ad 61))) 1 (some (ad 66))) 2 (some (ad 71))) 3 (some (ad 76))) 4 (some (ad 81))) 5 (some (ad 86))))))))]) ++ WX3 cy (ad 91) (fun i => ad (91 + i))) ++ WX2 cy (ad 34) (ad 1) (fun i => ad (34 + i))) ++ WX1 cy (ad 36) (ad 2) (ad 21) (ad 33) (fun i => ad (36 + i))) ++ [((ad 60), .inl (cy 1, 15, .inl (fun _ => 0)))]) ++ WX3 cy (ad 61) (fun i => ad (61 + i))) ++ WX3 cy (ad 66) (fun i => ad (66 + i))) ++ WX3 cy (ad 71) (fun i => ad (71 + i))) ++ WX3 cy (ad 76) (fun i => ad (76 + i))) ++ WX3 cy (ad 81) (fun i => ad (81 + i))) ++ WX3 cy (ad 86) (fun i => ad (86 + i)))
abbrev rmX5_init : Room := { frames := 2, cells := 95, slots := 9390, locals := 47 }
theorem hyX5_init : yX5_init.cls ≠ "java/lang/invoke/MethodHandle" ∧ yX5_init.cls ≠ "java/lang/invoke/VarHandle" ∧ (parseMethodDescriptor yX5_init.desc).map (fun d => d.parameters.length) = some 0 := by decide +kernel
theorem nX5_init_X0 : ∀ w ∈ u_ws RX0 TX0 9, w ∈ wsX5_init := fun w h => List.mem_cons_of_mem _ (List.mem_append_left _ (List.mem_append_left _ (List.mem_append_left _ (List.mem_append_right _ h))))
theorem nX5_init_X1 : ∀ w ∈ u_ws RX1 TX1 10, w ∈ wsX5_init := fun w h => List.mem_cons_of_mem _ (List.mem_append_right _ h)
theorem nX5_init_X2 : ∀ w ∈ u_ws RX2 TX2 10, w ∈ wsX5_init := fun w h => List.mem_cons_of_mem _ (List.mem_append_left _ (List.mem_append_right _ h))
theorem nX5_init_X3 : ∀ w ∈ u_ws RX3 TX3 6, w ∈ wsX5_init := fun w h => List.mem_cons_of_mem _ (List.mem_append_left _ (List.mem_append_left _ (List.mem_append_right _ h)))
theorem nX5_init_X4 : ∀ w ∈ u_ws RX4 TX4 8, w ∈ wsX5_init := fun w h => List.mem_cons_of_mem _ (List.mem_append_left _ (List.mem_append_left _ (List.mem_append_left _ (List.mem_append_left _ (List.mem_append_right _ h)))))
theorem nX5_init_X5 : ∀ w ∈ u_ws RX5 TX5 10, w ∈ wsX5_init := fun w h => List.mem_cons_of_mem _ (List.mem_append_left _ (List.mem_append_left _ (List.mem_append_left _ (List.mem_append_left _ (List.mem_append_left _ (List.mem_append_right _ h))))))
theorem hX5_init_1 : Cond.methodLink RX5 1 objectInit ∈ wsX5_init := by decide +kernel
theorem hX5_init_oi : Cond.instanceMethod objectInit ∈ wsX5_init := by decide +kernel
theorem hX5_init_oc : Cond.code objectInit ⟨#[0xb1]⟩ 1 none ∈ wsX5_init := by decide +kernel
theorem haX5_init_byte : Cond.arrayClass .byte ∈ wsX5_init := by decide +kernel
theorem hX5_init_9 : Cond.fieldLink RX5 9 (TX5 0).1 (TX5 0).2.1 (TX5 0).2.2.1 ∈ wsX5_init := by decide +kernel
theorem hX5_init_13 : Cond.fieldLink RX5 13 (TX5 1).1 (TX5 1).2.1 (TX5 1).2.2.1 ∈ wsX5_init := by decide +kernel
theorem hX5_init_17 : Cond.fieldLink RX5 17 (TX5 2).1 (TX5 2).2.1 (TX5 2).2.2.1 ∈ wsX5_init := by decide +kernel
theorem hX5_init_20 : Cond.classLink RX5 20 RX4 ∈ wsX5_init := by decide +kernel
theorem hnX5_init_X4 : Cond.instantiable RX4 8 ∈ wsX5_init := by decide +kernel
theorem hzX5_init_X4 : Cond.initialized RX4 ∈ wsX5_init := by decide +kernel
theorem hiX5_init_X4 : Cond.instanceMethod yX4_init ∈ wsX5_init := by decide +kernel
theorem hX5_init_22 : Cond.methodLink RX5 22 yX4_init ∈ wsX5_init := by decide +kernel
theorem hX5_init_23 : Cond.fieldLink RX5 23 (TX5 3).1 (TX5 3).2.1 (TX5 3).2.2.1 ∈ wsX5_init := by decide +kernel
theorem hX5_init_27 : Cond.classLink RX5 27 RX0 ∈ wsX5_init := by decide +kernel
theorem hnX5_init_X0 : Cond.instantiable RX0 9 ∈ wsX5_init := by decide +kernel
theorem hzX5_init_X0 : Cond.initialized RX0 ∈ wsX5_init := by decide +kernel
theorem hiX5_init_X0 : Cond.instanceMethod yX0_init ∈ wsX5_init := by decide +kernel
theorem hX5_init_29 : Cond.methodLink RX5 29 yX0_init ∈ wsX5_init := by decide +kernel
theorem hX5_init_32 : Cond.fieldLink RX5 32 (TX5 4).1 (TX5 4).2.1 (TX5 4).2.2.1 ∈ wsX5_init := by decide +kernel
theorem hX5_init_36 : Cond.classLink RX5 36 RX3 ∈ wsX5_init := by decide +kernel
theorem hX5_init_38 : Cond.fieldLink RX5 38 (TX5 5).1 (TX5 5).2.1 (TX5 5).2.2.1 ∈ wsX5_init := by decide +kernel
theorem hnX5_init_X3 : Cond.instantiable RX3 6 ∈ wsX5_init := by decide +kernel
theorem hzX5_init_X3 : Cond.initialized RX3 ∈ wsX5_init := by decide +kernel
theorem hiX5_init_X3 : Cond.instanceMethod yX3_init ∈ wsX5_init := by decide +kernel
theorem hX5_init_43 : Cond.fieldLink RX5 43 (TX5 6).1 (TX5 6).2.1 (TX5 6).2.2.1 ∈ wsX5_init := by decide +kernel
theorem hX5_init_47 : Cond.classLink RX5 47 RX2 ∈ wsX5_init := by decide +kernel
theorem hnX5_init_X2 : Cond.instantiable RX2 10 ∈ wsX5_init := by decide +kernel
theorem hzX5_init_X2 : Cond.initialized RX2 ∈ wsX5_init := by decide +kernel
theorem hiX5_init_X2 : Cond.instanceMethod yX2_init ∈ wsX5_init := by decide +kernel
theorem hX5_init_49 : Cond.methodLink RX5 49 yX2_init ∈ wsX5_init := by decide +kernel
theorem hX5_init_52 : Cond.fieldLink RX5 52 (TX5 7).1 (TX5 7).2.1 (TX5 7).2.2.1 ∈ wsX5_init := by decide +kernel
theorem hX5_init_56 : Cond.classLink RX5 56 RX1 ∈ wsX5_init := by decide +kernel
theorem hnX5_init_X1 : Cond.instantiable RX1 10 ∈ wsX5_init := by decide +kernel
theorem hzX5_init_X1 : Cond.initialized RX1 ∈ wsX5_init := by decide +kernel
theorem hiX5_init_X1 : Cond.instanceMethod yX1_init ∈ wsX5_init := by decide +kernel
theorem hX5_init_58 : Cond.methodLink RX5 58 yX1_init ∈ wsX5_init := by decide +kernel
theorem hX5_init_61 : Cond.fieldLink RX5 61 (TX5 8).1 (TX5 8).2.1 (TX5 8).2.2.1 ∈ wsX5_init := by decide +kernel
theorem haX5_init_int : Cond.arrayClass .int ∈ wsX5_init := by decide +kernel
theorem hX5_init_65 : Cond.fieldLink RX5 65 (TX5 9).1 (TX5 9).2.1 (TX5 9).2.2.1 ∈ wsX5_init := by decide +kernel
set_option maxHeartbeats 8000000 in
set_option maxRecDepth 100000 in
theorem mX5_init (l : Launch) (D : va_G) (cy : Nat → ClassId) (X : va_W) (A : Nat → Prop) (zs : Nat × Nat × Option Nat) (h0 : Nat) : Met l yX5_init wsX5_init rmX5_init (iPc cy [(h0, .inr (5, [.null, .int 0, .int 0, .null, .null, .null, .null, .null, .null, .null]))] X A D zs [.ref h0]) (iQ (WX5 cy h0) X A D) 95 9390 A := by
  refine Met.ofW (cc := cX5_init) (maxL := 2) (ret := none) (by decide) rfl ?_
  intro p e s m args below meth c s₁ B hml hv
  obtain ⟨ha, hP, hK, hE, hD, hA, hI⟩ := hv
  have hini : meth.name = "<init>" := (name_of_methodNamed B.named B.method).1
  have C : qC ceC 0 (fun _ => 0) cy ([(h0, .inr (5, [.null, .int 0, .int 0, .null, .null, .null, .null, .null, .null, .null]))] ++ X) A D zs cX5_init 2 RX5 wsX5_init p s m args meth c none := ⟨B.exec, B.bytes, hml, findClass_of_methodNamed B.named, atoms_spec (ws := wsX5_init) B.pre, hK, fun _ => hD, B.returns, B.notSynchronized, hE⟩
  rw [show entryFrame m args 2 = entryFrame m ([.ref h0] : List Value).toArray 2 by rw [ha]]
  refine q_entry (ce := ceC) (N := 0) (ad := fun _ => 0) (cy := cy) (X := [(h0, .inr (5, [.null, .int 0, .int 0, .null, .null, .null, .null, .null, .null, .null]))] ++ X) (σ := iσ) (A := A) (Nat.le_of_ble_eq_true rfl) hP (lv := [(0, .ref h0)]) rfl ?_
  refine q_aload_n C dX5_init_0 rfl 0 rfl ?_
  refine i_objinit C hX5_init_1 hX5_init_oi hX5_init_oc dX5_init_1 (Nat.le_of_ble_eq_true rfl) (Nat.le_of_ble_eq_true rfl) ?_
  refine q_aload_n C dX5_init_4 rfl 0 rfl ?_
  refine q_sipush C (v := 2000) dX5_init_5 (by decide) ?_
  refine i_newa C hA (t0 := 0) (cA := cy 0) rfl rfl (fun _ h => by cases h) haX5_init_byte (N' := 2000) (a0 := (2000, .inl (fun _ => 0))) (fun _ => rfl) (by decide) (by decide) (by decide) (Nat.le_of_ble_eq_true rfl) (Nat.le_of_ble_eq_true rfl) dX5_init_8 (fun q8 C => ?_)
  refine i_putF C hini (Cn := RX5) (T := TX5) (ty0 := tyX5) (Nf := 10) (ci := 5) (k := 0) (v := .ref q8) tyX5_ok nmX5 nX5_init_X5 0 rfl rfl (by decide) rfl rfl (ty := .array .byte) (by decide +kernel) rfl rfl (Nat.le_of_ble_eq_true rfl) hX5_init_9 dX5_init_10 (L' := [(h0, .inr (5, [.ref q8, .int 0, .int 0, .null, .null, .null, .null, .null, .null, .null])), (q8, .inl (cy 0, 2000, .inl (fun _ => 0)))]) rfl (fun C => ?_)
  refine q_aload_n C dX5_init_13 rfl 0 rfl ?_
  refine q_iconst C (v := 0) dX5_init_14 (by decide) ?_
  refine i_put C (Cn := RX5) (T := TX5) (ty0 := tyX5) (Nf := 10) (ci := 5) (k := 1) (v := .int 0) tyX5_ok nmX5 nX5_init_X5 0 rfl rfl (by decide) rfl (ty := .int) (by decide +kernel) rfl rfl (Nat.le_of_ble_eq_true rfl) hX5_init_13 dX5_init_15 (L' := [(h0, .inr (5, [.ref q8, .int 0, .int 0, .null, .null, .null, .null, .null, .null, .null])), (q8, .inl (cy 0, 2000, .inl (fun _ => 0)))]) rfl (fun C => ?_)
  refine q_aload_n C dX5_init_18 rfl 0 rfl ?_
  refine q_iconst C (v := -1) dX5_init_19 (by decide) ?_
  refine i_put C (Cn := RX5) (T := TX5) (ty0 := tyX5) (Nf := 10) (ci := 5) (k := 2) (v := .int (-1)) tyX5_ok nmX5 nX5_init_X5 0 rfl rfl (by decide) rfl (ty := .int) (by decide +kernel) rfl rfl (Nat.le_of_ble_eq_true rfl) hX5_init_17 dX5_init_20 (L' := [(h0, .inr (5, [.ref q8, .int 0, .int (-1), .null, .null, .null, .null, .null, .null, .null])), (q8, .inl (cy 0, 2000, .inl (fun _ => 0)))]) rfl (fun C => ?_)
  refine q_aload_n C dX5_init_23 rfl 0 rfl ?_
  refine i_new C hA (Cn := RX4) (T := TX4) (Nf := 8) (ci := 4) (ty0 := tyX4) nX5_init_X4 tyX4_ok hX5_init_20 hnX5_init_X4 hzX5_init_X4 rfl (fs := [.null, .null, .null, .null, .null, .null, .int 0, .int 0]) (fun j hj => by rcases (show j = 0 ∨ j = 1 ∨ j = 2 ∨ j = 3 ∨ j = 4 ∨ j = 5 ∨ j = 6 ∨ j = 7 by omega) with rfl | rfl | rfl | rfl | rfl | rfl | rfl | rfl <;> rfl) (Nat.le_of_ble_eq_true rfl) (Nat.le_of_ble_eq_true rfl) dX5_init_24 (fun q24 C => ?_)
  refine q_dup C dX5_init_27 rfl ?_
  refine i_callI C hA hI (mX4_init l D cy _ A zs q24) gX5_init_X4_init rfl rfl rfl hzX5_init_X4 hX5_init_22 hiX5_init_X4 rfl hyX4_init ⟨Nat.le_of_ble_eq_true rfl, Nat.le_of_ble_eq_true rfl⟩ (As := []) (rest := [.ref q24, .ref h0]) rfl rfl (Nat.le_of_ble_eq_true rfl) dX5_init_28 ⟨Nat.le_of_ble_eq_true rfl, Nat.le_of_ble_eq_true rfl⟩ (fun u24 C => ?_)
  refine i_putF C hini (Cn := RX5) (T := TX5) (ty0 := tyX5) (Nf := 10) (ci := 5) (k := 3) (v := .ref q24) tyX5_ok nmX5 nX5_init_X5 0 rfl rfl (by decide) rfl rfl (ty := .object "CrescentCourt$World") (by decide +kernel) rfl rfl (Nat.le_of_ble_eq_true rfl) hX5_init_23 dX5_init_31 (L' := ([(h0, .inr (5, [.ref q8, .int 0, .int (-1), .ref q24, .null, .null, .null, .null, .null, .null])), (q8, .inl (cy 0, 2000, .inl (fun _ => 0)))] ++ WX4 cy q24 u24)) rfl (fun C => ?_)
  refine q_aload_n C dX5_init_34 rfl 0 rfl ?_
  refine i_new C hA (Cn := RX0) (T := TX0) (Nf := 9) (ci := 0) (ty0 := tyX0) nX5_init_X0 tyX0_ok hX5_init_27 hnX5_init_X0 hzX5_init_X0 rfl (fs := [.null, .null, .null, .null, .null, .null, .int 0, .int 0, .int 0]) (fun j hj => by rcases (show j = 0 ∨ j = 1 ∨ j = 2 ∨ j = 3 ∨ j = 4 ∨ j = 5 ∨ j = 6 ∨ j = 7 ∨ j = 8 by omega) with rfl | rfl | rfl | rfl | rfl | rfl | rfl | rfl | rfl <;> rfl) (Nat.le_of_ble_eq_true rfl) (Nat.le_of_ble_eq_true rfl) dX5_init_35 (fun q35 C => ?_)
  refine q_dup C dX5_init_38 rfl ?_
  refine q_aload_n C dX5_init_39 rfl 0 rfl ?_
  refine i_get C (Cn := RX5) (T := TX5) (Nf := 10) (ci := 5) (k := 3) (v := .ref q24) nX5_init_X5 0 rfl rfl (by decide) rfl hX5_init_23 dX5_init_40 ?_
  refine i_callI C hA hI (mX0_init l D cy _ A zs q35 q24) gX5_init_X0_init rfl rfl rfl hzX5_init_X0 hX5_init_29 hiX5_init_X0 rfl hyX0_init ⟨Nat.le_of_ble_eq_true rfl, Nat.le_of_ble_eq_true rfl⟩ (As := [.ref q24]) (rest := [.ref q35, .ref h0]) rfl rfl (Nat.le_of_ble_eq_true rfl) dX5_init_43 ⟨Nat.le_of_ble_eq_true rfl, Nat.le_of_ble_eq_true rfl⟩ (fun u35 C => ?_)
  refine i_putF C hini (Cn := RX5) (T := TX5) (ty0 := tyX5) (Nf := 10) (ci := 5) (k := 4) (v := .ref q35) tyX5_ok nmX5 nX5_init_X5 0 rfl rfl (by decide) rfl rfl (ty := .object "CrescentCourt$Facts") (by decide +kernel) rfl rfl (Nat.le_of_ble_eq_true rfl) hX5_init_32 dX5_init_46 (L' := (([(h0, .inr (5, [.ref q8, .int 0, .int (-1), .ref q24, .ref q35, .null, .null, .null, .null, .null])), (q8, .inl (cy 0, 2000, .inl (fun _ => 0)))] ++ WX4 cy q24 u24) ++ WX0 cy q35 q24 u35)) rfl (fun C => ?_)
  refine q_aload_n C dX5_init_49 rfl 0 rfl ?_
  refine q_bipush C (v := 6) dX5_init_50 (by decide) ?_
  refine i_newq C hA hI hX5_init_36 (N' := 6) (by decide) (by decide) (by decide) (Nat.le_of_ble_eq_true rfl) (Nat.le_of_ble_eq_true rfl) dX5_init_52 (fun q52 C => ?_)
  refine i_putF C hini (Cn := RX5) (T := TX5) (ty0 := tyX5) (Nf := 10) (ci := 5) (k := 5) (v := .ref q52) tyX5_ok nmX5 nX5_init_X5 0 rfl rfl (by decide) rfl rfl (ty := .array (.object "CrescentCourt$Text")) (by decide +kernel) rfl rfl (Nat.le_of_ble_eq_true rfl) hX5_init_38 dX5_init_55 (L' := ((([(h0, .inr (5, [.ref q8, .int 0, .int (-1), .ref q24, .ref q35, .ref q52, .null, .null, .null, .null])), (q8, .inl (cy 0, 2000, .inl (fun _ => 0)))] ++ WX4 cy q24 u24) ++ WX0 cy q35 q24 u35) ++ [(q52, .inl (cy 4, 6, .inr (.inr (.inr (.inr (fun _ => none))))))])) rfl (fun C => ?_)
  refine q_aload_n C dX5_init_58 rfl 0 rfl ?_
  refine i_new C hA (Cn := RX3) (T := TX3) (Nf := 6) (ci := 3) (ty0 := tyX3) nX5_init_X3 tyX3_ok hX5_init_36 hnX5_init_X3 hzX5_init_X3 rfl (fs := [.null, .null, .null, .null, .int 0, .int 0]) (fun j hj => by rcases (show j = 0 ∨ j = 1 ∨ j = 2 ∨ j = 3 ∨ j = 4 ∨ j = 5 by omega) with rfl | rfl | rfl | rfl | rfl | rfl <;> rfl) (Nat.le_of_ble_eq_true rfl) (Nat.le_of_ble_eq_true rfl) dX5_init_59 (fun q59 C => ?_)
  refine q_dup C dX5_init_62 rfl ?_
  refine i_callIN C hA hI (mX3_init l D cy _ A zs q59) ggX5_init_X3_init rfl rfl rfl hI.2.2.2 hzX5_init_X3 hiX5_init_X3 rfl hyX3_init ⟨Nat.le_of_ble_eq_true rfl, Nat.le_of_ble_eq_true rfl⟩ (As := []) (rest := [.ref q59, .ref h0]) rfl rfl (Nat.le_of_ble_eq_true rfl) dX5_init_63 ⟨Nat.le_of_ble_eq_true rfl, Nat.le_of_ble_eq_true rfl⟩ (fun u59 C => ?_)
  refine i_put C (Cn := RX5) (T := TX5) (ty0 := tyX5) (Nf := 10) (ci := 5) (k := 6) (v := .ref q59) tyX5_ok nmX5 nX5_init_X5 0 rfl rfl (by decide) rfl (ty := .object "CrescentCourt$Text") (by decide +kernel) rfl rfl (Nat.le_of_ble_eq_true rfl) hX5_init_43 dX5_init_66 (L' := (((([(h0, .inr (5, [.ref q8, .int 0, .int (-1), .ref q24, .ref q35, .ref q52, .ref q59, .null, .null, .null])), (q8, .inl (cy 0, 2000, .inl (fun _ => 0)))] ++ WX4 cy q24 u24) ++ WX0 cy q35 q24 u35) ++ [(q52, .inl (cy 4, 6, .inr (.inr (.inr (.inr (fun _ => none))))))]) ++ WX3 cy q59 u59)) rfl (fun C => ?_)
  refine q_aload_n C dX5_init_69 rfl 0 rfl ?_
  refine i_new C hA (Cn := RX2) (T := TX2) (Nf := 10) (ci := 2) (ty0 := tyX2) nX5_init_X2 tyX2_ok hX5_init_47 hnX5_init_X2 hzX5_init_X2 rfl (fs := [.null, .int 0, .null, .int 0, .int 0, .int 0, .int 0, .int 0, .int 0, .int 0]) (fun j hj => by rcases (show j = 0 ∨ j = 1 ∨ j = 2 ∨ j = 3 ∨ j = 4 ∨ j = 5 ∨ j = 6 ∨ j = 7 ∨ j = 8 ∨ j = 9 by omega) with rfl | rfl | rfl | rfl | rfl | rfl | rfl | rfl | rfl | rfl <;> rfl) (Nat.le_of_ble_eq_true rfl) (Nat.le_of_ble_eq_true rfl) dX5_init_70 (fun q70 C => ?_)
  refine q_dup C dX5_init_73 rfl ?_
  refine q_aload_n C dX5_init_74 rfl 0 rfl ?_
  refine i_get C (Cn := RX5) (T := TX5) (Nf := 10) (ci := 5) (k := 0) (v := .ref q8) nX5_init_X5 0 rfl rfl (by decide) rfl hX5_init_9 dX5_init_75 ?_
  refine i_callI C hA hI (mX2_init l D cy _ A zs q70 q8) gX5_init_X2_init rfl rfl rfl hzX5_init_X2 hX5_init_49 hiX5_init_X2 rfl hyX2_init ⟨Nat.le_of_ble_eq_true rfl, Nat.le_of_ble_eq_true rfl⟩ (As := [.ref q8]) (rest := [.ref q70, .ref h0]) rfl rfl (Nat.le_of_ble_eq_true rfl) dX5_init_78 ⟨Nat.le_of_ble_eq_true rfl, Nat.le_of_ble_eq_true rfl⟩ (fun u70 C => ?_)
  refine i_putF C hini (Cn := RX5) (T := TX5) (ty0 := tyX5) (Nf := 10) (ci := 5) (k := 7) (v := .ref q70) tyX5_ok nmX5 nX5_init_X5 0 rfl rfl (by decide) rfl rfl (ty := .object "CrescentCourt$Reader") (by decide +kernel) rfl rfl (Nat.le_of_ble_eq_true rfl) hX5_init_52 dX5_init_81 (L' := ((((([(h0, .inr (5, [.ref q8, .int 0, .int (-1), .ref q24, .ref q35, .ref q52, .ref q59, .ref q70, .null, .null])), (q8, .inl (cy 0, 2000, .inl (fun _ => 0)))] ++ WX4 cy q24 u24) ++ WX0 cy q35 q24 u35) ++ [(q52, .inl (cy 4, 6, .inr (.inr (.inr (.inr (fun _ => none))))))]) ++ WX3 cy q59 u59) ++ WX2 cy q70 q8 u70)) rfl (fun C => ?_)
  refine q_aload_n C dX5_init_84 rfl 0 rfl ?_
  refine i_new C hA (Cn := RX1) (T := TX1) (Nf := 10) (ci := 1) (ty0 := tyX1) nX5_init_X1 tyX1_ok hX5_init_56 hnX5_init_X1 hzX5_init_X1 rfl (fs := [.null, .null, .null, .null, .null, .null, .null, .null, .int 0, .int 0]) (fun j hj => by rcases (show j = 0 ∨ j = 1 ∨ j = 2 ∨ j = 3 ∨ j = 4 ∨ j = 5 ∨ j = 6 ∨ j = 7 ∨ j = 8 ∨ j = 9 by omega) with rfl | rfl | rfl | rfl | rfl | rfl | rfl | rfl | rfl | rfl <;> rfl) (Nat.le_of_ble_eq_true rfl) (Nat.le_of_ble_eq_true rfl) dX5_init_85 (fun q85 C => ?_)
  refine q_dup C dX5_init_88 rfl ?_
  refine q_aload_n C dX5_init_89 rfl 0 rfl ?_
  refine i_get C (Cn := RX5) (T := TX5) (Nf := 10) (ci := 5) (k := 3) (v := .ref q24) nX5_init_X5 0 rfl rfl (by decide) rfl hX5_init_23 dX5_init_90 ?_
  refine q_aload_n C dX5_init_93 rfl 0 rfl ?_
  refine i_get C (Cn := RX5) (T := TX5) (Nf := 10) (ci := 5) (k := 4) (v := .ref q35) nX5_init_X5 0 rfl rfl (by decide) rfl hX5_init_32 dX5_init_94 ?_
  refine q_aload_n C dX5_init_97 rfl 0 rfl ?_
  refine i_get C (Cn := RX5) (T := TX5) (Nf := 10) (ci := 5) (k := 5) (v := .ref q52) nX5_init_X5 0 rfl rfl (by decide) rfl hX5_init_38 dX5_init_98 ?_
  refine i_callI C hA hI (mX1_init l D cy _ A zs q85 q24 q35 q52) gX5_init_X1_init rfl rfl rfl hzX5_init_X1 hX5_init_58 hiX5_init_X1 rfl hyX1_init ⟨Nat.le_of_ble_eq_true rfl, Nat.le_of_ble_eq_true rfl⟩ (As := [.ref q24, .ref q35, .ref q52]) (rest := [.ref q85, .ref h0]) rfl rfl (Nat.le_of_ble_eq_true rfl) dX5_init_101 ⟨Nat.le_of_ble_eq_true rfl, Nat.le_of_ble_eq_true rfl⟩ (fun u85 C => ?_)
  refine i_putF C hini (Cn := RX5) (T := TX5) (ty0 := tyX5) (Nf := 10) (ci := 5) (k := 8) (v := .ref q85) tyX5_ok nmX5 nX5_init_X5 0 rfl rfl (by decide) rfl rfl (ty := .object "CrescentCourt$Months") (by decide +kernel) rfl rfl (Nat.le_of_ble_eq_true rfl) hX5_init_61 dX5_init_104 (L' := (((((([(h0, .inr (5, [.ref q8, .int 0, .int (-1), .ref q24, .ref q35, .ref q52, .ref q59, .ref q70, .ref q85, .null])), (q8, .inl (cy 0, 2000, .inl (fun _ => 0)))] ++ WX4 cy q24 u24) ++ WX0 cy q35 q24 u35) ++ [(q52, .inl (cy 4, 6, .inr (.inr (.inr (.inr (fun _ => none))))))]) ++ WX3 cy q59 u59) ++ WX2 cy q70 q8 u70) ++ WX1 cy q85 q24 q35 q52 u85)) rfl (fun C => ?_)
  refine q_aload_n C dX5_init_107 rfl 0 rfl ?_
  refine q_bipush C (v := 15) dX5_init_108 (by decide) ?_
  refine i_newa C hA (t0 := 1) (cA := cy 1) rfl rfl (fun _ h => by cases h) haX5_init_int (N' := 15) (a0 := (15, .inl (fun _ => 0))) (fun _ => rfl) (by decide) (by decide) (by decide) (Nat.le_of_ble_eq_true rfl) (Nat.le_of_ble_eq_true rfl) dX5_init_110 (fun q110 C => ?_)
  refine i_putF C hini (Cn := RX5) (T := TX5) (ty0 := tyX5) (Nf := 10) (ci := 5) (k := 9) (v := .ref q110) tyX5_ok nmX5 nX5_init_X5 0 rfl rfl (by decide) rfl rfl (ty := .array .int) (by decide +kernel) rfl rfl (Nat.le_of_ble_eq_true rfl) hX5_init_65 dX5_init_112 (L' := ((((((([(h0, .inr (5, [.ref q8, .int 0, .int (-1), .ref q24, .ref q35, .ref q52, .ref q59, .ref q70, .ref q85, .ref q110])), (q8, .inl (cy 0, 2000, .inl (fun _ => 0)))] ++ WX4 cy q24 u24) ++ WX0 cy q35 q24 u35) ++ [(q52, .inl (cy 4, 6, .inr (.inr (.inr (.inr (fun _ => none))))))]) ++ WX3 cy q59 u59) ++ WX2 cy q70 q8 u70) ++ WX1 cy q85 q24 q35 q52 u85) ++ [(q110, .inl (cy 1, 15, .inl (fun _ => 0)))])) rfl (fun C => ?_)
  refine q_iconst C (v := 0) dX5_init_115 (by decide) ?_
  refine q_istore_n C dX5_init_116 rfl (by decide) (lv' := [(0, .ref h0), (1, .int 0)]) rfl ?_
  refine q_iload_n C dX5_init_117 rfl 1 rfl ?_
  refine q_bipush C (v := 6) dX5_init_118 (by decide) ?_
  refine i_icmp_ge_f C dX5_init_120 (by decide) ?_
  refine q_aload_n C dX5_init_123 rfl 0 rfl ?_
  refine i_get C (Cn := RX5) (T := TX5) (Nf := 10) (ci := 5) (k := 5) (v := .ref q52) nX5_init_X5 0 rfl rfl (by decide) rfl hX5_init_38 dX5_init_124 ?_
  refine q_iload_n C dX5_init_127 rfl 1 rfl ?_
  refine i_new C hA (Cn := RX3) (T := TX3) (Nf := 6) (ci := 3) (ty0 := tyX3) nX5_init_X3 tyX3_ok hX5_init_36 hnX5_init_X3 hzX5_init_X3 rfl (fs := [.null, .null, .null, .null, .int 0, .int 0]) (fun j hj => by rcases (show j = 0 ∨ j = 1 ∨ j = 2 ∨ j = 3 ∨ j = 4 ∨ j = 5 by omega) with rfl | rfl | rfl | rfl | rfl | rfl <;> rfl) (Nat.le_of_ble_eq_true rfl) (Nat.le_of_ble_eq_true rfl) dX5_init_128 (fun q128_64 C => ?_)
  refine q_dup C dX5_init_131 rfl ?_
  refine i_callIN C hA hI (mX3_init l D cy _ A zs q128_64) ggX5_init_X3_init rfl rfl rfl hI.2.2.2 hzX5_init_X3 hiX5_init_X3 rfl hyX3_init ⟨Nat.le_of_ble_eq_true rfl, Nat.le_of_ble_eq_true rfl⟩ (As := []) (rest := [.ref q128_64, .int 0, .ref q52]) rfl rfl (Nat.le_of_ble_eq_true rfl) dX5_init_132 ⟨Nat.le_of_ble_eq_true rfl, Nat.le_of_ble_eq_true rfl⟩ (fun u128_64 C => ?_)
  refine i_aast C 33 66 rfl rfl (by unfold vp_in; decide) dX5_init_135 (L' := (((((((([(h0, .inr (5, [.ref q8, .int 0, .int (-1), .ref q24, .ref q35, .ref q52, .ref q59, .ref q70, .ref q85, .ref q110])), (q8, .inl (cy 0, 2000, .inl (fun _ => 0)))] ++ WX4 cy q24 u24) ++ WX0 cy q35 q24 u35) ++ [(q52, .inl (cy 4, 6, .inr (.inr (.inr (.inr (va_up (fun _ => none) 0 (some q128_64)))))))]) ++ WX3 cy q59 u59) ++ WX2 cy q70 q8 u70) ++ WX1 cy q85 q24 q35 q52 u85) ++ [(q110, .inl (cy 1, 15, .inl (fun _ => 0)))]) ++ WX3 cy q128_64 u128_64)) rfl (fun C => ?_)
  refine i_iinc C dX5_init_136 1 rfl (by decide) (v := 1) (by decide) (lv' := [(0, .ref h0), (1, .int 1)]) rfl ?_
  refine q_goto C (tgt := 117) dX5_init_139 (by decide) ?_
  refine q_iload_n C dX5_init_117 rfl 1 rfl ?_
  refine q_bipush C (v := 6) dX5_init_118 (by decide) ?_
  refine i_icmp_ge_f C dX5_init_120 (by decide) ?_
  refine q_aload_n C dX5_init_123 rfl 0 rfl ?_
  refine i_get C (Cn := RX5) (T := TX5) (Nf := 10) (ci := 5) (k := 5) (v := .ref q52) nX5_init_X5 0 rfl rfl (by decide) rfl hX5_init_38 dX5_init_124 ?_
  refine q_iload_n C dX5_init_127 rfl 1 rfl ?_
  refine i_new C hA (Cn := RX3) (T := TX3) (Nf := 6) (ci := 3) (ty0 := tyX3) nX5_init_X3 tyX3_ok hX5_init_36 hnX5_init_X3 hzX5_init_X3 rfl (fs := [.null, .null, .null, .null, .int 0, .int 0]) (fun j hj => by rcases (show j = 0 ∨ j = 1 ∨ j = 2 ∨ j = 3 ∨ j = 4 ∨ j = 5 by omega) with rfl | rfl | rfl | rfl | rfl | rfl <;> rfl) (Nat.le_of_ble_eq_true rfl) (Nat.le_of_ble_eq_true rfl) dX5_init_128 (fun q128_76 C => ?_)
  refine q_dup C dX5_init_131 rfl ?_
  refine i_callIN C hA hI (mX3_init l D cy _ A zs q128_76) ggX5_init_X3_init rfl rfl rfl hI.2.2.2 hzX5_init_X3 hiX5_init_X3 rfl hyX3_init ⟨Nat.le_of_ble_eq_true rfl, Nat.le_of_ble_eq_true rfl⟩ (As := []) (rest := [.ref q128_76, .int 1, .ref q52]) rfl rfl (Nat.le_of_ble_eq_true rfl) dX5_init_132 ⟨Nat.le_of_ble_eq_true rfl, Nat.le_of_ble_eq_true rfl⟩ (fun u128_76 C => ?_)
  refine i_aast C 33 71 rfl rfl (by unfold vp_in; decide) dX5_init_135 (L' := ((((((((([(h0, .inr (5, [.ref q8, .int 0, .int (-1), .ref q24, .ref q35, .ref q52, .ref q59, .ref q70, .ref q85, .ref q110])), (q8, .inl (cy 0, 2000, .inl (fun _ => 0)))] ++ WX4 cy q24 u24) ++ WX0 cy q35 q24 u35) ++ [(q52, .inl (cy 4, 6, .inr (.inr (.inr (.inr (va_up (va_up (fun _ => none) 0 (some q128_64)) 1 (some q128_76)))))))]) ++ WX3 cy q59 u59) ++ WX2 cy q70 q8 u70) ++ WX1 cy q85 q24 q35 q52 u85) ++ [(q110, .inl (cy 1, 15, .inl (fun _ => 0)))]) ++ WX3 cy q128_64 u128_64) ++ WX3 cy q128_76 u128_76)) rfl (fun C => ?_)
  refine i_iinc C dX5_init_136 1 rfl (by decide) (v := 2) (by decide) (lv' := [(0, .ref h0), (1, .int 2)]) rfl ?_
  refine q_goto C (tgt := 117) dX5_init_139 (by decide) ?_
  refine q_iload_n C dX5_init_117 rfl 1 rfl ?_
  refine q_bipush C (v := 6) dX5_init_118 (by decide) ?_
  refine i_icmp_ge_f C dX5_init_120 (by decide) ?_
  refine q_aload_n C dX5_init_123 rfl 0 rfl ?_
  refine i_get C (Cn := RX5) (T := TX5) (Nf := 10) (ci := 5) (k := 5) (v := .ref q52) nX5_init_X5 0 rfl rfl (by decide) rfl hX5_init_38 dX5_init_124 ?_
  refine q_iload_n C dX5_init_127 rfl 1 rfl ?_
  refine i_new C hA (Cn := RX3) (T := TX3) (Nf := 6) (ci := 3) (ty0 := tyX3) nX5_init_X3 tyX3_ok hX5_init_36 hnX5_init_X3 hzX5_init_X3 rfl (fs := [.null, .null, .null, .null, .int 0, .int 0]) (fun j hj => by rcases (show j = 0 ∨ j = 1 ∨ j = 2 ∨ j = 3 ∨ j = 4 ∨ j = 5 by omega) with rfl | rfl | rfl | rfl | rfl | rfl <;> rfl) (Nat.le_of_ble_eq_true rfl) (Nat.le_of_ble_eq_true rfl) dX5_init_128 (fun q128_88 C => ?_)
  refine q_dup C dX5_init_131 rfl ?_
  refine i_callIN C hA hI (mX3_init l D cy _ A zs q128_88) ggX5_init_X3_init rfl rfl rfl hI.2.2.2 hzX5_init_X3 hiX5_init_X3 rfl hyX3_init ⟨Nat.le_of_ble_eq_true rfl, Nat.le_of_ble_eq_true rfl⟩ (As := []) (rest := [.ref q128_88, .int 2, .ref q52]) rfl rfl (Nat.le_of_ble_eq_true rfl) dX5_init_132 ⟨Nat.le_of_ble_eq_true rfl, Nat.le_of_ble_eq_true rfl⟩ (fun u128_88 C => ?_)
  refine i_aast C 33 76 rfl rfl (by unfold vp_in; decide) dX5_init_135 (L' := (((((((((([(h0, .inr (5, [.ref q8, .int 0, .int (-1), .ref q24, .ref q35, .ref q52, .ref q59, .ref q70, .ref q85, .ref q110])), (q8, .inl (cy 0, 2000, .inl (fun _ => 0)))] ++ WX4 cy q24 u24) ++ WX0 cy q35 q24 u35) ++ [(q52, .inl (cy 4, 6, .inr (.inr (.inr (.inr (va_up (va_up (va_up (fun _ => none) 0 (some q128_64)) 1 (some q128_76)) 2 (some q128_88)))))))]) ++ WX3 cy q59 u59) ++ WX2 cy q70 q8 u70) ++ WX1 cy q85 q24 q35 q52 u85) ++ [(q110, .inl (cy 1, 15, .inl (fun _ => 0)))]) ++ WX3 cy q128_64 u128_64) ++ WX3 cy q128_76 u128_76) ++ WX3 cy q128_88 u128_88)) rfl (fun C => ?_)
  refine i_iinc C dX5_init_136 1 rfl (by decide) (v := 3) (by decide) (lv' := [(0, .ref h0), (1, .int 3)]) rfl ?_
  refine q_goto C (tgt := 117) dX5_init_139 (by decide) ?_
  refine q_iload_n C dX5_init_117 rfl 1 rfl ?_
  refine q_bipush C (v := 6) dX5_init_118 (by decide) ?_
  refine i_icmp_ge_f C dX5_init_120 (by decide) ?_
  refine q_aload_n C dX5_init_123 rfl 0 rfl ?_
  refine i_get C (Cn := RX5) (T := TX5) (Nf := 10) (ci := 5) (k := 5) (v := .ref q52) nX5_init_X5 0 rfl rfl (by decide) rfl hX5_init_38 dX5_init_124 ?_
  refine q_iload_n C dX5_init_127 rfl 1 rfl ?_
  refine i_new C hA (Cn := RX3) (T := TX3) (Nf := 6) (ci := 3) (ty0 := tyX3) nX5_init_X3 tyX3_ok hX5_init_36 hnX5_init_X3 hzX5_init_X3 rfl (fs := [.null, .null, .null, .null, .int 0, .int 0]) (fun j hj => by rcases (show j = 0 ∨ j = 1 ∨ j = 2 ∨ j = 3 ∨ j = 4 ∨ j = 5 by omega) with rfl | rfl | rfl | rfl | rfl | rfl <;> rfl) (Nat.le_of_ble_eq_true rfl) (Nat.le_of_ble_eq_true rfl) dX5_init_128 (fun q128_100 C => ?_)
  refine q_dup C dX5_init_131 rfl ?_
  refine i_callIN C hA hI (mX3_init l D cy _ A zs q128_100) ggX5_init_X3_init rfl rfl rfl hI.2.2.2 hzX5_init_X3 hiX5_init_X3 rfl hyX3_init ⟨Nat.le_of_ble_eq_true rfl, Nat.le_of_ble_eq_true rfl⟩ (As := []) (rest := [.ref q128_100, .int 3, .ref q52]) rfl rfl (Nat.le_of_ble_eq_true rfl) dX5_init_132 ⟨Nat.le_of_ble_eq_true rfl, Nat.le_of_ble_eq_true rfl⟩ (fun u128_100 C => ?_)
  refine i_aast C 33 81 rfl rfl (by unfold vp_in; decide) dX5_init_135 (L' := ((((((((((([(h0, .inr (5, [.ref q8, .int 0, .int (-1), .ref q24, .ref q35, .ref q52, .ref q59, .ref q70, .ref q85, .ref q110])), (q8, .inl (cy 0, 2000, .inl (fun _ => 0)))] ++ WX4 cy q24 u24) ++ WX0 cy q35 q24 u35) ++ [(q52, .inl (cy 4, 6, .inr (.inr (.inr (.inr (va_up (va_up (va_up (va_up (fun _ => none) 0 (some q128_64)) 1 (some q128_76)) 2 (some q128_88)) 3 (some q128_100)))))))]) ++ WX3 cy q59 u59) ++ WX2 cy q70 q8 u70) ++ WX1 cy q85 q24 q35 q52 u85) ++ [(q110, .inl (cy 1, 15, .inl (fun _ => 0)))]) ++ WX3 cy q128_64 u128_64) ++ WX3 cy q128_76 u128_76) ++ WX3 cy q128_88 u128_88) ++ WX3 cy q128_100 u128_100)) rfl (fun C => ?_)
  refine i_iinc C dX5_init_136 1 rfl (by decide) (v := 4) (by decide) (lv' := [(0, .ref h0), (1, .int 4)]) rfl ?_
  refine q_goto C (tgt := 117) dX5_init_139 (by decide) ?_
  refine q_iload_n C dX5_init_117 rfl 1 rfl ?_
  refine q_bipush C (v := 6) dX5_init_118 (by decide) ?_
  refine i_icmp_ge_f C dX5_init_120 (by decide) ?_
  refine q_aload_n C dX5_init_123 rfl 0 rfl ?_
  refine i_get C (Cn := RX5) (T := TX5) (Nf := 10) (ci := 5) (k := 5) (v := .ref q52) nX5_init_X5 0 rfl rfl (by decide) rfl hX5_init_38 dX5_init_124 ?_
  refine q_iload_n C dX5_init_127 rfl 1 rfl ?_
  refine i_new C hA (Cn := RX3) (T := TX3) (Nf := 6) (ci := 3) (ty0 := tyX3) nX5_init_X3 tyX3_ok hX5_init_36 hnX5_init_X3 hzX5_init_X3 rfl (fs := [.null, .null, .null, .null, .int 0, .int 0]) (fun j hj => by rcases (show j = 0 ∨ j = 1 ∨ j = 2 ∨ j = 3 ∨ j = 4 ∨ j = 5 by omega) with rfl | rfl | rfl | rfl | rfl | rfl <;> rfl) (Nat.le_of_ble_eq_true rfl) (Nat.le_of_ble_eq_true rfl) dX5_init_128 (fun q128_112 C => ?_)
  refine q_dup C dX5_init_131 rfl ?_
  refine i_callIN C hA hI (mX3_init l D cy _ A zs q128_112) ggX5_init_X3_init rfl rfl rfl hI.2.2.2 hzX5_init_X3 hiX5_init_X3 rfl hyX3_init ⟨Nat.le_of_ble_eq_true rfl, Nat.le_of_ble_eq_true rfl⟩ (As := []) (rest := [.ref q128_112, .int 4, .ref q52]) rfl rfl (Nat.le_of_ble_eq_true rfl) dX5_init_132 ⟨Nat.le_of_ble_eq_true rfl, Nat.le_of_ble_eq_true rfl⟩ (fun u128_112 C => ?_)
  refine i_aast C 33 86 rfl rfl (by unfold vp_in; decide) dX5_init_135 (L' := (((((((((((([(h0, .inr (5, [.ref q8, .int 0, .int (-1), .ref q24, .ref q35, .ref q52, .ref q59, .ref q70, .ref q85, .ref q110])), (q8, .inl (cy 0, 2000, .inl (fun _ => 0)))] ++ WX4 cy q24 u24) ++ WX0 cy q35 q24 u35) ++ [(q52, .inl (cy 4, 6, .inr (.inr (.inr (.inr (va_up (va_up (va_up (va_up (va_up (fun _ => none) 0 (some q128_64)) 1 (some q128_76)) 2 (some q128_88)) 3 (some q128_100)) 4 (some q128_112)))))))]) ++ WX3 cy q59 u59) ++ WX2 cy q70 q8 u70) ++ WX1 cy q85 q24 q35 q52 u85) ++ [(q110, .inl (cy 1, 15, .inl (fun _ => 0)))]) ++ WX3 cy q128_64 u128_64) ++ WX3 cy q128_76 u128_76) ++ WX3 cy q128_88 u128_88) ++ WX3 cy q128_100 u128_100) ++ WX3 cy q128_112 u128_112)) rfl (fun C => ?_)
  refine i_iinc C dX5_init_136 1 rfl (by decide) (v := 5) (by decide) (lv' := [(0, .ref h0), (1, .int 5)]) rfl ?_
  refine q_goto C (tgt := 117) dX5_init_139 (by decide) ?_
  refine q_iload_n C dX5_init_117 rfl 1 rfl ?_
  refine q_bipush C (v := 6) dX5_init_118 (by decide) ?_
  refine i_icmp_ge_f C dX5_init_120 (by decide) ?_
  refine q_aload_n C dX5_init_123 rfl 0 rfl ?_
  refine i_get C (Cn := RX5) (T := TX5) (Nf := 10) (ci := 5) (k := 5) (v := .ref q52) nX5_init_X5 0 rfl rfl (by decide) rfl hX5_init_38 dX5_init_124 ?_
  refine q_iload_n C dX5_init_127 rfl 1 rfl ?_
  refine i_new C hA (Cn := RX3) (T := TX3) (Nf := 6) (ci := 3) (ty0 := tyX3) nX5_init_X3 tyX3_ok hX5_init_36 hnX5_init_X3 hzX5_init_X3 rfl (fs := [.null, .null, .null, .null, .int 0, .int 0]) (fun j hj => by rcases (show j = 0 ∨ j = 1 ∨ j = 2 ∨ j = 3 ∨ j = 4 ∨ j = 5 by omega) with rfl | rfl | rfl | rfl | rfl | rfl <;> rfl) (Nat.le_of_ble_eq_true rfl) (Nat.le_of_ble_eq_true rfl) dX5_init_128 (fun q128_124 C => ?_)
  refine q_dup C dX5_init_131 rfl ?_
  refine i_callIN C hA hI (mX3_init l D cy _ A zs q128_124) ggX5_init_X3_init rfl rfl rfl hI.2.2.2 hzX5_init_X3 hiX5_init_X3 rfl hyX3_init ⟨Nat.le_of_ble_eq_true rfl, Nat.le_of_ble_eq_true rfl⟩ (As := []) (rest := [.ref q128_124, .int 5, .ref q52]) rfl rfl (Nat.le_of_ble_eq_true rfl) dX5_init_132 ⟨Nat.le_of_ble_eq_true rfl, Nat.le_of_ble_eq_true rfl⟩ (fun u128_124 C => ?_)
  refine i_aast C 33 91 rfl rfl (by unfold vp_in; decide) dX5_init_135 (L' := ((((((((((((([(h0, .inr (5, [.ref q8, .int 0, .int (-1), .ref q24, .ref q35, .ref q52, .ref q59, .ref q70, .ref q85, .ref q110])), (q8, .inl (cy 0, 2000, .inl (fun _ => 0)))] ++ WX4 cy q24 u24) ++ WX0 cy q35 q24 u35) ++ [(q52, .inl (cy 4, 6, .inr (.inr (.inr (.inr (va_up (va_up (va_up (va_up (va_up (va_up (fun _ => none) 0 (some q128_64)) 1 (some q128_76)) 2 (some q128_88)) 3 (some q128_100)) 4 (some q128_112)) 5 (some q128_124)))))))]) ++ WX3 cy q59 u59) ++ WX2 cy q70 q8 u70) ++ WX1 cy q85 q24 q35 q52 u85) ++ [(q110, .inl (cy 1, 15, .inl (fun _ => 0)))]) ++ WX3 cy q128_64 u128_64) ++ WX3 cy q128_76 u128_76) ++ WX3 cy q128_88 u128_88) ++ WX3 cy q128_100 u128_100) ++ WX3 cy q128_112 u128_112) ++ WX3 cy q128_124 u128_124)) rfl (fun C => ?_)
  refine i_iinc C dX5_init_136 1 rfl (by decide) (v := 6) (by decide) (lv' := [(0, .ref h0), (1, .int 6)]) rfl ?_
  refine q_goto C (tgt := 117) dX5_init_139 (by decide) ?_
  refine q_iload_n C dX5_init_117 rfl 1 rfl ?_
  refine q_bipush C (v := 6) dX5_init_118 (by decide) ?_
  refine i_icmp_ge_t C (tgt := 142) dX5_init_120 (by decide) (by decide) ?_
  exact i_vret C (fun k => if k = 0 then h0 else if k = 1 then q8 else if k < 21 then (if k = 2 then q24 else u24 (k - 2)) else if k < 33 then (if k = 21 then q35 else u35 (k - 21)) else if k = 33 then q52 else if k < 36 then (if k = 34 then q70 else u70 (k - 34)) else if k < 60 then (if k = 36 then q85 else u85 (k - 36)) else if k = 60 then q110 else if k < 66 then (if k = 61 then q128_64 else u128_64 (k - 61)) else if k < 71 then (if k = 66 then q128_76 else u128_76 (k - 66)) else if k < 76 then (if k = 71 then q128_88 else u128_88 (k - 71)) else if k < 81 then (if k = 76 then q128_100 else u128_100 (k - 76)) else if k < 86 then (if k = 81 then q128_112 else u128_112 (k - 81)) else if k < 91 then (if k = 86 then q128_124 else u128_124 (k - 86)) else if k < 96 then (if k = 91 then q59 else u59 (k - 91)) else 0) rfl dX5_init_142
