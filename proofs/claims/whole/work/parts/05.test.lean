theorem dX4_isLand_0 : decode cX4_isLand 0 = .ok (.iload_n 1, 1) := by decide +kernel
theorem dX4_isLand_1 : decode cX4_isLand 1 = .ok (.ifCond .lt 15, 3) := by decide +kernel
theorem dX4_isLand_4 : decode cX4_isLand 4 = .ok (.iload_n 1, 1) := by decide +kernel
theorem dX4_isLand_5 : decode cX4_isLand 5 = .ok (.aload_n 0, 1) := by decide +kernel
theorem dX4_isLand_6 : decode cX4_isLand 6 = .ok (.getfield 38, 3) := by decide +kernel
theorem dX4_isLand_9 : decode cX4_isLand 9 = .ok (.if_icmp .ge 7, 3) := by decide +kernel
theorem dX4_isLand_12 : decode cX4_isLand 12 = .ok (.iconst 1, 1) := by decide +kernel
theorem dX4_isLand_13 : decode cX4_isLand 13 = .ok (.goto 4, 3) := by decide +kernel
theorem dX4_isLand_16 : decode cX4_isLand 16 = .ok (.iconst 0, 1) := by decide +kernel
theorem dX4_isLand_17 : decode cX4_isLand 17 = .ok (.ireturn, 1) := by decide +kernel
theorem dX4_ageOn_0 : decode cX4_ageOn 0 = .ok (.bipush 24, 2) := by decide +kernel
theorem dX4_ageOn_2 : decode cX4_ageOn 2 = .ok (.iload_n 2, 1) := by decide +kernel
theorem dX4_ageOn_3 : decode cX4_ageOn 3 = .ok (.imul, 1) := by decide +kernel
theorem dX4_ageOn_4 : decode cX4_ageOn 4 = .ok (.bipush 18, 2) := by decide +kernel
theorem dX4_ageOn_6 : decode cX4_ageOn 6 = .ok (.iadd, 1) := by decide +kernel
theorem dX4_ageOn_7 : decode cX4_ageOn 7 = .ok (.aload_n 0, 1) := by decide +kernel
theorem dX4_ageOn_8 : decode cX4_ageOn 8 = .ok (.getfield 15, 3) := by decide +kernel
theorem dX4_ageOn_11 : decode cX4_ageOn 11 = .ok (.iload_n 1, 1) := by decide +kernel
theorem dX4_ageOn_12 : decode cX4_ageOn 12 = .ok (.iaload, 1) := by decide +kernel
theorem dX4_ageOn_13 : decode cX4_ageOn 13 = .ok (.iadd, 1) := by decide +kernel
theorem dX4_ageOn_14 : decode cX4_ageOn 14 = .ok (.istore_n 3, 1) := by decide +kernel
theorem dX4_ageOn_15 : decode cX4_ageOn 15 = .ok (.aload_n 0, 1) := by decide +kernel
theorem dX4_ageOn_16 : decode cX4_ageOn 16 = .ok (.getfield 34, 3) := by decide +kernel
theorem dX4_ageOn_19 : decode cX4_ageOn 19 = .ok (.iconst 1, 1) := by decide +kernel
theorem dX4_ageOn_20 : decode cX4_ageOn 20 = .ok (.isub, 1) := by decide +kernel
theorem dX4_ageOn_21 : decode cX4_ageOn 21 = .ok (.istore 4, 2) := by decide +kernel
theorem dX4_ageOn_23 : decode cX4_ageOn 23 = .ok (.iload 4, 2) := by decide +kernel
theorem dX4_ageOn_25 : decode cX4_ageOn 25 = .ok (.ifCond .lt 30, 3) := by decide +kernel
theorem dX4_ageOn_28 : decode cX4_ageOn 28 = .ok (.aload_n 0, 1) := by decide +kernel
theorem dX4_ageOn_29 : decode cX4_ageOn 29 = .ok (.getfield 9, 3) := by decide +kernel
theorem dX4_ageOn_32 : decode cX4_ageOn 32 = .ok (.iload 4, 2) := by decide +kernel
theorem dX4_ageOn_34 : decode cX4_ageOn 34 = .ok (.iaload, 1) := by decide +kernel
theorem dX4_ageOn_35 : decode cX4_ageOn 35 = .ok (.iload_n 3, 1) := by decide +kernel
theorem dX4_ageOn_36 : decode cX4_ageOn 36 = .ok (.if_icmp .gt 13, 3) := by decide +kernel
theorem dX4_ageOn_39 : decode cX4_ageOn 39 = .ok (.iload_n 3, 1) := by decide +kernel
theorem dX4_ageOn_40 : decode cX4_ageOn 40 = .ok (.aload_n 0, 1) := by decide +kernel
theorem dX4_ageOn_41 : decode cX4_ageOn 41 = .ok (.getfield 9, 3) := by decide +kernel
theorem dX4_ageOn_44 : decode cX4_ageOn 44 = .ok (.iload 4, 2) := by decide +kernel
theorem dX4_ageOn_46 : decode cX4_ageOn 46 = .ok (.iaload, 1) := by decide +kernel
theorem dX4_ageOn_47 : decode cX4_ageOn 47 = .ok (.isub, 1) := by decide +kernel
theorem dX4_ageOn_48 : decode cX4_ageOn 48 = .ok (.ireturn, 1) := by decide +kernel
theorem dX4_ageOn_49 : decode cX4_ageOn 49 = .ok (.iinc 4 (-1), 3) := by decide +kernel
theorem dX4_ageOn_52 : decode cX4_ageOn 52 = .ok (.goto (-29), 3) := by decide +kernel
theorem dX4_ageOn_55 : decode cX4_ageOn 55 = .ok (.iconst (-1), 1) := by decide +kernel
theorem dX4_ageOn_56 : decode cX4_ageOn 56 = .ok (.ireturn, 1) := by decide +kernel
set_option maxRecDepth 20000 in
theorem ggX4_lightOn_X4_ageOn : GoodIn wsX4_lightOn wsX4_ageOn := goodIn_r _ [11, 12, 13, 14, 15, 16, 17, 18, 19, 20, 21, 22] (by decide +kernel) (by decide +kernel)
set_option maxRecDepth 20000 in
theorem gX4_lightOn_X4_ageOn : GoodIn wsX4_lightOn (wsV RX4 42 RX4 yX4_ageOn wsX4_ageOn) := goodIn_app (goodIn_of _ (by decide +kernel)) ggX4_lightOn_X4_ageOn
theorem dX4_lightOn_0 : decode cX4_lightOn 0 = .ok (.aload_n 0, 1) := by decide +kernel
theorem dX4_lightOn_1 : decode cX4_lightOn 1 = .ok (.iload_n 1, 1) := by decide +kernel
theorem dX4_lightOn_2 : decode cX4_lightOn 2 = .ok (.iload_n 2, 1) := by decide +kernel
theorem dX4_lightOn_3 : decode cX4_lightOn 3 = .ok (.invokevirtual 42, 3) := by decide +kernel
theorem dX4_lightOn_6 : decode cX4_lightOn 6 = .ok (.istore_n 3, 1) := by decide +kernel
theorem dX4_lightOn_7 : decode cX4_lightOn 7 = .ok (.iload_n 3, 1) := by decide +kernel
theorem dX4_lightOn_8 : decode cX4_lightOn 8 = .ok (.iconst (-1), 1) := by decide +kernel
theorem dX4_lightOn_9 : decode cX4_lightOn 9 = .ok (.if_icmp .ne 5, 3) := by decide +kernel
theorem dX4_lightOn_12 : decode cX4_lightOn 12 = .ok (.iconst 0, 1) := by decide +kernel
theorem dX4_lightOn_13 : decode cX4_lightOn 13 = .ok (.ireturn, 1) := by decide +kernel
theorem dX4_lightOn_14 : decode cX4_lightOn 14 = .ok (.aload_n 0, 1) := by decide +kernel
theorem dX4_lightOn_15 : decode cX4_lightOn 15 = .ok (.getfield 26, 3) := by decide +kernel
theorem dX4_lightOn_18 : decode cX4_lightOn 18 = .ok (.iload_n 1, 1) := by decide +kernel
theorem dX4_lightOn_19 : decode cX4_lightOn 19 = .ok (.iaload, 1) := by decide +kernel
theorem dX4_lightOn_20 : decode cX4_lightOn 20 = .ok (.istore 4, 2) := by decide +kernel
theorem dX4_lightOn_22 : decode cX4_lightOn 22 = .ok (.iload 4, 2) := by decide +kernel
theorem dX4_lightOn_24 : decode cX4_lightOn 24 = .ok (.ifCond .ne 5, 3) := by decide +kernel
theorem dX4_lightOn_27 : decode cX4_lightOn 27 = .ok (.iconst 1, 1) := by decide +kernel
theorem dX4_lightOn_28 : decode cX4_lightOn 28 = .ok (.ireturn, 1) := by decide +kernel
theorem dX4_lightOn_29 : decode cX4_lightOn 29 = .ok (.aload_n 0, 1) := by decide +kernel
theorem dX4_lightOn_30 : decode cX4_lightOn 30 = .ok (.getfield 23, 3) := by decide +kernel
theorem dX4_lightOn_33 : decode cX4_lightOn 33 = .ok (.iload_n 1, 1) := by decide +kernel
theorem dX4_lightOn_34 : decode cX4_lightOn 34 = .ok (.aaload, 1) := by decide +kernel
theorem dX4_lightOn_35 : decode cX4_lightOn 35 = .ok (.iload_n 3, 1) := by decide +kernel
theorem dX4_lightOn_36 : decode cX4_lightOn 36 = .ok (.iload 4, 2) := by decide +kernel
theorem dX4_lightOn_38 : decode cX4_lightOn 38 = .ok (.iconst 1, 1) := by decide +kernel
theorem dX4_lightOn_39 : decode cX4_lightOn 39 = .ok (.isub, 1) := by decide +kernel
theorem dX4_lightOn_40 : decode cX4_lightOn 40 = .ok (.invokestatic 46, 3) := by decide +kernel
theorem dX4_lightOn_43 : decode cX4_lightOn 43 = .ok (.baload, 1) := by decide +kernel
theorem dX4_lightOn_44 : decode cX4_lightOn 44 = .ok (.ireturn, 1) := by decide +kernel
theorem dX4_isNewsThere_0 : decode cX4_isNewsThere 0 = .ok (.iload_n 3, 1) := by decide +kernel
theorem dX4_isNewsThere_1 : decode cX4_isNewsThere 1 = .ok (.aload_n 0, 1) := by decide +kernel
theorem dX4_isNewsThere_2 : decode cX4_isNewsThere 2 = .ok (.getfield 31, 3) := by decide +kernel
theorem dX4_isNewsThere_5 : decode cX4_isNewsThere 5 = .ok (.iload_n 1, 1) := by decide +kernel
theorem dX4_isNewsThere_6 : decode cX4_isNewsThere 6 = .ok (.aaload, 1) := by decide +kernel
theorem dX4_isNewsThere_7 : decode cX4_isNewsThere 7 = .ok (.iload_n 2, 1) := by decide +kernel
theorem dX4_isNewsThere_8 : decode cX4_isNewsThere 8 = .ok (.iaload, 1) := by decide +kernel
theorem dX4_isNewsThere_9 : decode cX4_isNewsThere 9 = .ok (.iadd, 1) := by decide +kernel
theorem dX4_isNewsThere_10 : decode cX4_isNewsThere 10 = .ok (.iload 4, 2) := by decide +kernel
theorem dX4_isNewsThere_12 : decode cX4_isNewsThere 12 = .ok (.if_icmp .gt 7, 3) := by decide +kernel
theorem dX4_isNewsThere_15 : decode cX4_isNewsThere 15 = .ok (.iconst 1, 1) := by decide +kernel
theorem dX4_isNewsThere_16 : decode cX4_isNewsThere 16 = .ok (.goto 4, 3) := by decide +kernel
theorem dX4_isNewsThere_19 : decode cX4_isNewsThere 19 = .ok (.iconst 0, 1) := by decide +kernel
theorem dX4_isNewsThere_20 : decode cX4_isNewsThere 20 = .ok (.ireturn, 1) := by decide +kernel
abbrev rmX4_isLand : Room := { frames := 0, cells := 0, slots := 0, locals := 0 }
theorem hyX4_isLand : yX4_isLand.cls = RX4 ∧ yX4_isLand.cls ≠ "java/lang/invoke/MethodHandle" ∧ yX4_isLand.cls ≠ "java/lang/invoke/VarHandle" ∧ (parseMethodDescriptor yX4_isLand.desc).map (fun d => d.parameters.length) = some 1 := by decide +kernel
theorem nX4_isLand_X4 : ∀ w ∈ u_ws RX4 TX4 8, w ∈ wsX4_isLand := fun w h => List.mem_cons_of_mem _ (List.mem_append_right _ h)
theorem hX4_isLand_38 : Cond.fieldLink RX4 38 (TX4 7).1 (TX4 7).2.1 (TX4 7).2.2.1 ∈ wsX4_isLand := by decide +kernel
def fX4_isLand (σ : St) (a1 : Int32) : Option (Int32 × St) := qlet (fun (y17 : Int32) => (qzz y17 (some (y17, σ)))) (fun j17 => (qlet (fun (y16 : Unit) => (j17 (0 : Int32))) (fun j16 => (if a1 < (0 : Int32) then (j16 ()) else (if (σ.1 2 7) ≤ a1 then (j16 ()) else (j17 (1 : Int32)))))))
set_option maxHeartbeats 4000000 in
set_option maxRecDepth 100000 in
theorem kX4_isLand (l : Launch) (D : va_G) (ad : Nat → Nat) (cy : Nat → ClassId) (X : va_W) (A : Nat → Prop) (zs : Nat × Nat × Value) (σ : St) (a1 : Int32) (r0 : Int32) (σ0 : St) (h : fX4_isLand σ a1 = some (r0, σ0)) : Met l yX4_isLand wsX4_isLand rmX4_isLand (qPc ceC 96 ad cy X A D zs [.ref (ad 2), .int a1] σ) (qQi ceC 96 ad cy X A D r0 σ0) 0 0 A := by
  refine Met.ofW (cc := cX4_isLand) (maxL := 2) (ret := (some .boolean)) (by decide) rfl ?_
  intro p e s m args below meth c s₁ B hml hv
  obtain ⟨ha, hP, hK, hE, hD⟩ := hv
  have C : qC ceC 96 ad cy X A D zs cX4_isLand 2 RX4 wsX4_isLand p s m args meth c (some .boolean) := ⟨B.exec, B.bytes, hml, findClass_of_methodNamed B.named, atoms_spec (ws := wsX4_isLand) B.pre, hK, hD, B.returns, B.notSynchronized, hE⟩
  rw [show entryFrame m args 2 = entryFrame m ([.ref (ad 2), .int a1] : List Value).toArray 2 by rw [ha]]
  refine q_entry (A := A) (Nat.le_of_ble_eq_true rfl) hP (lv := [(0, .ref (ad 2)), (1, .int a1)]) rfl ?_
  unfold fX4_isLand at h
  refine q_iload_n C dX4_isLand_0 rfl 1 rfl ?_
  refine q_join (G := fun (y17 : Int32) => qVi ceC 96 ad cy X A D p l e (headSpec wsX4_isLand rmX4_isLand).room s m args below meth c 2 r0 σ0 17 [] [.int y17] σ) h (fun y17 h => ?_) (fun j17 hj17 h => ?_)
  · exact q_zret C rfl dX4_isLand_17 h
  refine q_join (G := fun (y16 : Unit) => qVi ceC 96 ad cy X A D p l e (headSpec wsX4_isLand rmX4_isLand).room s m args below meth c 2 r0 σ0 16 [] [] σ) h (fun y16 h => ?_) (fun j16 hj16 h => ?_)
  · refine q_iconst C (v := 0) dX4_isLand_16 (by decide) ?_
    exact q_sub [] rfl (hj17 (0 : Int32) h)
  refine q_if_lt C (tgt := 16) dX4_isLand_1 (by decide) h (fun h => ?_) (fun h => ?_)
  · exact q_sub [] rfl (hj16 () h)
  · refine q_iload_n C dX4_isLand_4 rfl 1 rfl ?_
    refine q_aload_n C dX4_isLand_5 rfl 0 rfl ?_
    refine q_get C (Cn := RX4) (T := TX4) (Nf := 8) (ci := 4) (id := 2) (k := 7) (v := .int (σ.1 2 7)) nX4_isLand_X4 (by decide) (ceC_2 ad cy _ _ _) rfl (by decide) rfl hX4_isLand_38 dX4_isLand_6 ?_
    refine q_icmp_ge C (tgt := 16) dX4_isLand_9 (by decide) h (fun h => ?_) (fun h => ?_)
    · exact q_sub [] rfl (hj16 () h)
    · refine q_iconst C (v := 1) dX4_isLand_12 (by decide) ?_
      refine q_goto C (tgt := 17) dX4_isLand_13 (by decide) ?_
      exact q_sub [] rfl (hj17 (1 : Int32) h)
abbrev rmX4_ageOn : Room := { frames := 0, cells := 0, slots := 0, locals := 0 }
theorem hyX4_ageOn : yX4_ageOn.cls = RX4 ∧ yX4_ageOn.cls ≠ "java/lang/invoke/MethodHandle" ∧ yX4_ageOn.cls ≠ "java/lang/invoke/VarHandle" ∧ (parseMethodDescriptor yX4_ageOn.desc).map (fun d => d.parameters.length) = some 2 := by decide +kernel
theorem nX4_ageOn_X4 : ∀ w ∈ u_ws RX4 TX4 8, w ∈ wsX4_ageOn := by decide +kernel
theorem hX4_ageOn_15 : Cond.fieldLink RX4 15 (TX4 1).1 (TX4 1).2.1 (TX4 1).2.2.1 ∈ wsX4_ageOn := by decide +kernel
theorem hX4_ageOn_34 : Cond.fieldLink RX4 34 (TX4 6).1 (TX4 6).2.1 (TX4 6).2.2.1 ∈ wsX4_ageOn := by decide +kernel
theorem hX4_ageOn_9 : Cond.fieldLink RX4 9 (TX4 0).1 (TX4 0).2.1 (TX4 0).2.2.1 ∈ wsX4_ageOn := by decide +kernel
def fX4_ageOn_L (a1 : Int32) (a2 : Int32) : Nat → Int32 → Int32 → St → Option (Int32 × St)
  | 0, _, _, _ => none
  | n + 1, v3, v4, σ => if v4 < (0 : Int32) then (some ((-1 : Int32), σ)) else (qix v4 14 (if v3 < (σ.1 3 v4.toNatClampNeg) then (qlet (v4 + (-1 : Int32)) (fun x49 => fX4_ageOn_L a1 a2 n v3 x49 σ)) else (qix v4 14 (some ((v3 - (σ.1 3 v4.toNatClampNeg)), σ)))))
def fX4_ageOn (σ : St) (a1 : Int32) (a2 : Int32) : Option (Int32 × St) := qix a1 6 (qlet ((((24 : Int32) * a2) + (18 : Int32)) + (σ.1 4 a1.toNatClampNeg)) (fun x14 => qlet ((σ.1 2 6) - (1 : Int32)) (fun x21 => fX4_ageOn_L a1 a2 100000 x14 x21 σ)))
set_option maxHeartbeats 4000000 in
set_option maxRecDepth 100000 in
theorem kX4_ageOn_L {ad : Nat → Nat} {cy : Nat → ClassId} {X : va_W} {A : Nat → Prop} {D : va_G} {zs : Nat × Nat × Value} {p : Program} {l : Launch} {e : Env} {s : State} {m : MethodId} {args : Array Value} {below : List Frame} {meth : Method} {c : Code} {a1 : Int32} {a2 : Int32} (C : qC ceC 96 ad cy X A D zs cX4_ageOn 5 RX4 wsX4_ageOn p s m args meth c (some .int)) (r0 : Int32) (σ0 : St) (n : Nat) : (∀ (v3 : Int32) (v4 : Int32) (σ : St), fX4_ageOn_L a1 a2 n v3 v4 σ = some (r0, σ0) → qVi ceC 96 ad cy X A D p l e (headSpec wsX4_ageOn rmX4_ageOn).room s m args below meth c 5 r0 σ0 23 [(0, .ref (ad 2)), (3, .int v3), (4, .int v4)] [] σ) := by
  induction n with
  | zero =>
    intro v3 v4 σ h; cases h
  | succ n ih =>
    intro v3 v4 σ h
    rw [fX4_ageOn_L] at h
    refine q_iload C dX4_ageOn_23 2 rfl ?_
    refine q_if_lt C (tgt := 55) dX4_ageOn_25 (by decide) h (fun h => ?_) (fun h => ?_)
    · refine q_iconst C (v := -1) dX4_ageOn_55 (by decide) ?_
      exact q_iret C rfl dX4_ageOn_56 h
    · refine q_aload_n C dX4_ageOn_28 rfl 0 rfl ?_
      refine q_get C (Cn := RX4) (T := TX4) (Nf := 8) (ci := 4) (id := 2) (k := 0) (v := .ref (ad 3)) nX4_ageOn_X4 (by decide) (ceC_2 ad cy _ _ _) rfl (by decide) rfl hX4_ageOn_9 dX4_ageOn_29 ?_
      refine q_iload C dX4_ageOn_32 2 rfl ?_
      refine q_iald C (id := 3) (by decide) (ceC_3 ad cy _ _ _) dX4_ageOn_34 h (fun h => ?_)
      refine q_iload_n C dX4_ageOn_35 rfl 1 rfl ?_
      refine q_icmp_gt C (tgt := 49) dX4_ageOn_36 (by decide) h (fun h => ?_) (fun h => ?_)
      · refine q_iincL C dX4_ageOn_49 2 rfl (by decide) (nv := -1) (by decide) h (lw := fun x49 => [(0, .ref (ad 2)), (3, .int v3), (4, .int x49)]) (fun _ => rfl) (fun x49 h => ?_)
        refine q_goto C (tgt := 23) dX4_ageOn_52 (by decide) ?_
        exact q_sub [0, 1, 2] rfl (ih v3 x49 σ h)
      · refine q_iload_n C dX4_ageOn_39 rfl 1 rfl ?_
        refine q_aload_n C dX4_ageOn_40 rfl 0 rfl ?_
        refine q_get C (Cn := RX4) (T := TX4) (Nf := 8) (ci := 4) (id := 2) (k := 0) (v := .ref (ad 3)) nX4_ageOn_X4 (by decide) (ceC_2 ad cy _ _ _) rfl (by decide) rfl hX4_ageOn_9 dX4_ageOn_41 ?_
        refine q_iload C dX4_ageOn_44 2 rfl ?_
        refine q_iald C (id := 3) (by decide) (ceC_3 ad cy _ _ _) dX4_ageOn_46 h (fun h => ?_)
        refine q_isub C dX4_ageOn_47 ?_
        exact q_iret C rfl dX4_ageOn_48 h
set_option maxHeartbeats 4000000 in
set_option maxRecDepth 100000 in
theorem kX4_ageOn (l : Launch) (D : va_G) (ad : Nat → Nat) (cy : Nat → ClassId) (X : va_W) (A : Nat → Prop) (zs : Nat × Nat × Value) (σ : St) (a1 : Int32) (a2 : Int32) (r0 : Int32) (σ0 : St) (h : fX4_ageOn σ a1 a2 = some (r0, σ0)) : Met l yX4_ageOn wsX4_ageOn rmX4_ageOn (qPc ceC 96 ad cy X A D zs [.ref (ad 2), .int a1, .int a2] σ) (qQi ceC 96 ad cy X A D r0 σ0) 0 0 A := by
  refine Met.ofW (cc := cX4_ageOn) (maxL := 5) (ret := (some .int)) (by decide) rfl ?_
  intro p e s m args below meth c s₁ B hml hv
  obtain ⟨ha, hP, hK, hE, hD⟩ := hv
  have C : qC ceC 96 ad cy X A D zs cX4_ageOn 5 RX4 wsX4_ageOn p s m args meth c (some .int) := ⟨B.exec, B.bytes, hml, findClass_of_methodNamed B.named, atoms_spec (ws := wsX4_ageOn) B.pre, hK, hD, B.returns, B.notSynchronized, hE⟩
  rw [show entryFrame m args 5 = entryFrame m ([.ref (ad 2), .int a1, .int a2] : List Value).toArray 5 by rw [ha]]
  refine q_entry (A := A) (Nat.le_of_ble_eq_true rfl) hP (lv := [(0, .ref (ad 2)), (1, .int a1), (2, .int a2)]) rfl ?_
  unfold fX4_ageOn at h
  refine q_bipush C (v := 24) dX4_ageOn_0 (by decide) ?_
  refine q_iload_n C dX4_ageOn_2 rfl 2 rfl ?_
  refine q_imul C dX4_ageOn_3 ?_
  refine q_bipush C (v := 18) dX4_ageOn_4 (by decide) ?_
  refine q_iadd C dX4_ageOn_6 ?_
  refine q_aload_n C dX4_ageOn_7 rfl 0 rfl ?_
  refine q_get C (Cn := RX4) (T := TX4) (Nf := 8) (ci := 4) (id := 2) (k := 1) (v := .ref (ad 4)) nX4_ageOn_X4 (by decide) (ceC_2 ad cy _ _ _) rfl (by decide) rfl hX4_ageOn_15 dX4_ageOn_8 ?_
  refine q_iload_n C dX4_ageOn_11 rfl 1 rfl ?_
  refine q_iald C (id := 4) (by decide) (ceC_4 ad cy _ _ _) dX4_ageOn_12 h (fun h => ?_)
  refine q_iadd C dX4_ageOn_13 ?_
  refine q_istore_nL C dX4_ageOn_14 rfl (by decide) h (lw := fun x14 => [(0, .ref (ad 2)), (1, .int a1), (2, .int a2), (3, .int x14)]) (fun _ => rfl) (fun x14 h => ?_)
  refine q_aload_n C dX4_ageOn_15 rfl 0 rfl ?_
  refine q_get C (Cn := RX4) (T := TX4) (Nf := 8) (ci := 4) (id := 2) (k := 6) (v := .int (σ.1 2 6)) nX4_ageOn_X4 (by decide) (ceC_2 ad cy _ _ _) rfl (by decide) rfl hX4_ageOn_34 dX4_ageOn_16 ?_
  refine q_iconst C (v := 1) dX4_ageOn_19 (by decide) ?_
  refine q_isub C dX4_ageOn_20 ?_
  refine q_istoreL C dX4_ageOn_21 (by decide) h (lw := fun x21 => [(0, .ref (ad 2)), (1, .int a1), (2, .int a2), (3, .int x14), (4, .int x21)]) (fun _ => rfl) (fun x21 h => ?_)
  exact q_sub [0, 3, 4] rfl ((kX4_ageOn_L C r0 σ0 100000) x14 x21 σ h)
abbrev rmX4_lightOn : Room := { frames := 1, cells := 0, slots := 0, locals := 24 }
theorem hyX4_lightOn : yX4_lightOn.cls = RX4 ∧ yX4_lightOn.cls ≠ "java/lang/invoke/MethodHandle" ∧ yX4_lightOn.cls ≠ "java/lang/invoke/VarHandle" ∧ (parseMethodDescriptor yX4_lightOn.desc).map (fun d => d.parameters.length) = some 2 := by decide +kernel
theorem nX4_lightOn_X4 : ∀ w ∈ u_ws RX4 TX4 8, w ∈ wsX4_lightOn := by decide +kernel
theorem hX4_lightOn_26 : Cond.fieldLink RX4 26 (TX4 4).1 (TX4 4).2.1 (TX4 4).2.2.1 ∈ wsX4_lightOn := by decide +kernel
theorem hX4_lightOn_23 : Cond.fieldLink RX4 23 (TX4 3).1 (TX4 3).2.1 (TX4 3).2.2.1 ∈ wsX4_lightOn := by decide +kernel
theorem hX4_lightOn_46 : Cond.methodLink RX4 46 Lib.Math.min.name ∈ wsX4_lightOn := by decide +kernel
theorem hX4_lightOn_mins : Cond.static Lib.Math.min.name ∈ wsX4_lightOn := by decide +kernel
theorem hX4_lightOn_mi : Cond.initialized "java/lang/Math" ∈ wsX4_lightOn := by decide +kernel
theorem hX4_lightOn_minc : Cond.code Lib.Math.min.name Lib.Math.min.code 2 (some .int) ∈ wsX4_lightOn := by decide +kernel
def fX4_lightOn (σ : St) (a1 : Int32) (a2 : Int32) : Option (Int32 × St) := qcall (fX4_ageOn σ a1 a2) (fun r3 σ3 => if r3 = (-1 : Int32) then (some ((0 : Int32), σ3)) else (qix a1 6 (qlet (σ3.1 13 a1.toNatClampNeg) (fun x20 => if x20 = (0 : Int32) then (some ((1 : Int32), σ3)) else (qix a1 6 (qix (if (x20 - (1 : Int32)) < r3 then (x20 - (1 : Int32)) else r3) 60 (some ((σ3.1 (7 + a1.toNatClampNeg) (if (x20 - (1 : Int32)) < r3 then (x20 - (1 : Int32)) else r3).toNatClampNeg), σ3))))))))
set_option maxHeartbeats 4000000 in
set_option maxRecDepth 100000 in
theorem kX4_lightOn (l : Launch) (D : va_G) (ad : Nat → Nat) (cy : Nat → ClassId) (X : va_W) (A : Nat → Prop) (zs : Nat × Nat × Value) (σ : St) (a1 : Int32) (a2 : Int32) (r0 : Int32) (σ0 : St) (h : fX4_lightOn σ a1 a2 = some (r0, σ0)) : Met l yX4_lightOn wsX4_lightOn rmX4_lightOn (qPc ceC 96 ad cy X A D zs [.ref (ad 2), .int a1, .int a2] σ) (qQi ceC 96 ad cy X A D r0 σ0) 0 0 A := by
  refine Met.ofW (cc := cX4_lightOn) (maxL := 5) (ret := (some .int)) (by decide) rfl ?_
  intro p e s m args below meth c s₁ B hml hv
  obtain ⟨ha, hP, hK, hE, hD⟩ := hv
  have C : qC ceC 96 ad cy X A D zs cX4_lightOn 5 RX4 wsX4_lightOn p s m args meth c (some .int) := ⟨B.exec, B.bytes, hml, findClass_of_methodNamed B.named, atoms_spec (ws := wsX4_lightOn) B.pre, hK, hD, B.returns, B.notSynchronized, hE⟩
  rw [show entryFrame m args 5 = entryFrame m ([.ref (ad 2), .int a1, .int a2] : List Value).toArray 5 by rw [ha]]
  refine q_entry (A := A) (Nat.le_of_ble_eq_true rfl) hP (lv := [(0, .ref (ad 2)), (1, .int a1), (2, .int a2)]) rfl ?_
  unfold fX4_lightOn at h
  refine q_aload_n C dX4_lightOn_0 rfl 0 rfl ?_
  refine q_iload_n C dX4_lightOn_1 rfl 1 rfl ?_
  refine q_iload_n C dX4_lightOn_2 rfl 2 rfl ?_
  refine q_callVi C (rm := rmX4_ageOn) (As := [.int a1, .int a2]) (rest := []) (id := 2) (ci := 4) (fun r9 σ9 h9 => kX4_ageOn l D ad cy X A zs σ a1 a2 r9 σ9 h9) gX4_lightOn_X4_ageOn rfl rfl rfl hyX4_ageOn ⟨Nat.le_of_ble_eq_true rfl, Nat.le_of_ble_eq_true rfl⟩ (by decide) (ceC_2 ad cy _ _ _) rfl rfl rfl (Nat.le_of_ble_eq_true rfl) dX4_lightOn_3 ⟨Nat.zero_le _, Nat.zero_le _⟩ h (fun r3 σ3 h => ?_)
  refine q_istore_n C dX4_lightOn_6 rfl (by decide) (lv' := [(0, .ref (ad 2)), (1, .int a1), (2, .int a2), (3, .int r3)]) rfl ?_
  refine q_iload_n C dX4_lightOn_7 rfl 3 rfl ?_
  refine q_iconst C (v := -1) dX4_lightOn_8 (by decide) ?_
  refine q_icmp_ne C (tgt := 14) dX4_lightOn_9 (by decide) h (fun h => ?_) (fun h => ?_)
  · refine q_aload_n C dX4_lightOn_14 rfl 0 rfl ?_
    refine q_get C (Cn := RX4) (T := TX4) (Nf := 8) (ci := 4) (id := 2) (k := 4) (v := .ref (ad 13)) nX4_lightOn_X4 (by decide) (ceC_2 ad cy _ _ _) rfl (by decide) rfl hX4_lightOn_26 dX4_lightOn_15 ?_
    refine q_iload_n C dX4_lightOn_18 rfl 1 rfl ?_
    refine q_iald C (id := 13) (by decide) (ceC_13 ad cy _ _ _) dX4_lightOn_19 h (fun h => ?_)
    refine q_istoreL C dX4_lightOn_20 (by decide) h (lw := fun x20 => [(0, .ref (ad 2)), (1, .int a1), (2, .int a2), (3, .int r3), (4, .int x20)]) (fun _ => rfl) (fun x20 h => ?_)
    refine q_iload C dX4_lightOn_22 4 rfl ?_
    refine q_if_ne C (tgt := 29) dX4_lightOn_24 (by decide) h (fun h => ?_) (fun h => ?_)
    · refine q_aload_n C dX4_lightOn_29 rfl 0 rfl ?_
      refine q_get C (Cn := RX4) (T := TX4) (Nf := 8) (ci := 4) (id := 2) (k := 3) (v := .ref (ad 6)) nX4_lightOn_X4 (by decide) (ceC_2 ad cy _ _ _) rfl (by decide) rfl hX4_lightOn_23 dX4_lightOn_30 ?_
      refine q_iload_n C dX4_lightOn_33 rfl 1 rfl ?_
      refine q_aald C (id := 6) (t0 := 5) (by decide) (ceC_6 ad cy _ _ _) rfl rfl dX4_lightOn_34 h (fun _ => rfl) (fun hr34 h => ?_)
      refine q_iload_n C dX4_lightOn_35 rfl 3 rfl ?_
      refine q_iload C dX4_lightOn_36 4 rfl ?_
      refine q_iconst C (v := 1) dX4_lightOn_38 (by decide) ?_
      refine q_isub C dX4_lightOn_39 ?_
      refine q_mmin C hX4_lightOn_46 hX4_lightOn_mins hX4_lightOn_mi hX4_lightOn_minc (Nat.le_of_ble_eq_true rfl) (Nat.le_of_ble_eq_true rfl) ⟨Nat.zero_le _, Nat.zero_le _⟩ dX4_lightOn_40 ?_
      refine q_bald C (id := (7 + a1.toNatClampNeg)) (by omega) (ceC_r7 ad cy _ _ _ hr34) dX4_lightOn_43 h (fun h => ?_)
      exact q_iret C rfl dX4_lightOn_44 h
    · refine q_iconst C (v := 1) dX4_lightOn_27 (by decide) ?_
      exact q_iret C rfl dX4_lightOn_28 h
  · refine q_iconst C (v := 0) dX4_lightOn_12 (by decide) ?_
    exact q_iret C rfl dX4_lightOn_13 h
abbrev rmX4_isNewsThere : Room := { frames := 0, cells := 0, slots := 0, locals := 0 }
theorem hyX4_isNewsThere : yX4_isNewsThere.cls = RX4 ∧ yX4_isNewsThere.cls ≠ "java/lang/invoke/MethodHandle" ∧ yX4_isNewsThere.cls ≠ "java/lang/invoke/VarHandle" ∧ (parseMethodDescriptor yX4_isNewsThere.desc).map (fun d => d.parameters.length) = some 4 := by decide +kernel
theorem nX4_isNewsThere_X4 : ∀ w ∈ u_ws RX4 TX4 8, w ∈ wsX4_isNewsThere := by decide +kernel
theorem hX4_isNewsThere_31 : Cond.fieldLink RX4 31 (TX4 5).1 (TX4 5).2.1 (TX4 5).2.2.1 ∈ wsX4_isNewsThere := by decide +kernel
def fX4_isNewsThere (σ : St) (a1 : Int32) (a2 : Int32) (a3 : Int32) (a4 : Int32) : Option (Int32 × St) := qix a1 6 (qix a2 6 (qlet (fun (y20 : Int32) => (qzz y20 (some (y20, σ)))) (fun j20 => (if a4 < (a3 + (σ.1 (15 + a1.toNatClampNeg) a2.toNatClampNeg)) then (j20 (0 : Int32)) else (j20 (1 : Int32))))))
set_option maxHeartbeats 4000000 in
set_option maxRecDepth 100000 in
theorem kX4_isNewsThere (l : Launch) (D : va_G) (ad : Nat → Nat) (cy : Nat → ClassId) (X : va_W) (A : Nat → Prop) (zs : Nat × Nat × Value) (σ : St) (a1 : Int32) (a2 : Int32) (a3 : Int32) (a4 : Int32) (r0 : Int32) (σ0 : St) (h : fX4_isNewsThere σ a1 a2 a3 a4 = some (r0, σ0)) : Met l yX4_isNewsThere wsX4_isNewsThere rmX4_isNewsThere (qPc ceC 96 ad cy X A D zs [.ref (ad 2), .int a1, .int a2, .int a3, .int a4] σ) (qQi ceC 96 ad cy X A D r0 σ0) 0 0 A := by
  refine Met.ofW (cc := cX4_isNewsThere) (maxL := 5) (ret := (some .boolean)) (by decide) rfl ?_
  intro p e s m args below meth c s₁ B hml hv
  obtain ⟨ha, hP, hK, hE, hD⟩ := hv
  have C : qC ceC 96 ad cy X A D zs cX4_isNewsThere 5 RX4 wsX4_isNewsThere p s m args meth c (some .boolean) := ⟨B.exec, B.bytes, hml, findClass_of_methodNamed B.named, atoms_spec (ws := wsX4_isNewsThere) B.pre, hK, hD, B.returns, B.notSynchronized, hE⟩
  rw [show entryFrame m args 5 = entryFrame m ([.ref (ad 2), .int a1, .int a2, .int a3, .int a4] : List Value).toArray 5 by rw [ha]]
  refine q_entry (A := A) (Nat.le_of_ble_eq_true rfl) hP (lv := [(0, .ref (ad 2)), (1, .int a1), (2, .int a2), (3, .int a3), (4, .int a4)]) rfl ?_
  unfold fX4_isNewsThere at h
  refine q_iload_n C dX4_isNewsThere_0 rfl 3 rfl ?_
  refine q_aload_n C dX4_isNewsThere_1 rfl 0 rfl ?_
  refine q_get C (Cn := RX4) (T := TX4) (Nf := 8) (ci := 4) (id := 2) (k := 5) (v := .ref (ad 14)) nX4_isNewsThere_X4 (by decide) (ceC_2 ad cy _ _ _) rfl (by decide) rfl hX4_isNewsThere_31 dX4_isNewsThere_2 ?_
  refine q_iload_n C dX4_isNewsThere_5 rfl 1 rfl ?_
  refine q_aald C (id := 14) (t0 := 6) (by decide) (ceC_14 ad cy _ _ _) rfl rfl dX4_isNewsThere_6 h (fun _ => rfl) (fun hr6 h => ?_)
  refine q_iload_n C dX4_isNewsThere_7 rfl 2 rfl ?_
  refine q_iald C (id := (15 + a1.toNatClampNeg)) (by omega) (ceC_r15 ad cy _ _ _ hr6) dX4_isNewsThere_8 h (fun h => ?_)
  refine q_iadd C dX4_isNewsThere_9 ?_
  refine q_iload C dX4_isNewsThere_10 4 rfl ?_
  refine q_join (G := fun (y20 : Int32) => qVi ceC 96 ad cy X A D p l e (headSpec wsX4_isNewsThere rmX4_isNewsThere).room s m args below meth c 5 r0 σ0 20 [] [.int y20] σ) h (fun y20 h => ?_) (fun j20 hj20 h => ?_)
  · exact q_zret C rfl dX4_isNewsThere_20 h
  refine q_icmp_gt C (tgt := 19) dX4_isNewsThere_12 (by decide) h (fun h => ?_) (fun h => ?_)
  · refine q_iconst C (v := 0) dX4_isNewsThere_19 (by decide) ?_
    exact q_sub [] rfl (hj20 (0 : Int32) h)
  · refine q_iconst C (v := 1) dX4_isNewsThere_15 (by decide) ?_
    refine q_goto C (tgt := 20) dX4_isNewsThere_16 (by decide) ?_
    exact q_sub [] rfl (hj20 (1 : Int32) h)
