abbrev rmX2_isBlank : Room := { frames := 0, cells := 0, slots := 0, locals := 0 }
theorem hyX2_isBlank : yX2_isBlank.cls ≠ "java/lang/invoke/MethodHandle" ∧ yX2_isBlank.cls ≠ "java/lang/invoke/VarHandle" ∧ (parseMethodDescriptor yX2_isBlank.desc).map (fun d => d.parameters.length) = some 1 := by decide +kernel
def fX2_isBlank (σ : St) (a0 : Int32) : Option (Int32 × St) := qlet (fun (y29 : Int32) => (qzz y29 (some (y29, σ)))) (fun j29 => (qlet (fun (y24 : Unit) => (j29 (1 : Int32))) (fun j24 => (if a0 = (9 : Int32) then (j24 ()) else (if a0 = (10 : Int32) then (j24 ()) else (if a0 = (13 : Int32) then (j24 ()) else (if a0 = (32 : Int32) then (j24 ()) else (j29 (0 : Int32)))))))))
set_option maxHeartbeats 4000000 in
set_option maxRecDepth 100000 in
theorem kX2_isBlank (l : Launch) (D : va_G) (ad : Nat → Nat) (cy : Nat → ClassId) (X : va_W) (A : Nat → Prop) (zs : Nat × Nat × Option Nat) (σ : St) (a0 : Int32) (r0 : Int32) (σ0 : St) (h : fX2_isBlank σ a0 = some (r0, σ0)) : Met l yX2_isBlank wsX2_isBlank rmX2_isBlank (qPc ceC 96 ad cy X A D zs [.int a0] σ) (qQi ceC 96 ad cy X A D r0 σ0) 0 0 A := by
  refine Met.ofW (cc := cX2_isBlank) (maxL := 1) (ret := (some .boolean)) (by decide) rfl ?_
  intro p e s m args below meth c s₁ B hml hv
  obtain ⟨ha, hP, hK, hE, hD⟩ := hv
  have C : qC ceC 96 ad cy X A D zs cX2_isBlank 1 RX2 wsX2_isBlank p s m args meth c (some .boolean) := ⟨B.exec, B.bytes, hml, findClass_of_methodNamed B.named, atoms_spec (ws := wsX2_isBlank) B.pre, hK, hD, B.returns, B.notSynchronized, hE⟩
  rw [show entryFrame m args 1 = entryFrame m ([.int a0] : List Value).toArray 1 by rw [ha]]
  refine q_entry (A := A) (Nat.le_of_ble_eq_true rfl) hP (lv := [(0, .int a0)]) rfl ?_
  unfold fX2_isBlank at h
  refine q_iload_n C dX2_isBlank_0 rfl 0 rfl ?_
  refine q_bipush C (v := 9) dX2_isBlank_1 (by decide) ?_
  refine q_join (G := fun (y29 : Int32) => qVi ceC 96 ad cy X A D p l e (headSpec wsX2_isBlank rmX2_isBlank).room s m args below meth c 1 r0 σ0 29 [] [.int y29] σ) h (fun y29 h => ?_) (fun j29 hj29 h => ?_)
  · exact q_zret C rfl dX2_isBlank_29 h
  refine q_join (G := fun (y24 : Unit) => qVi ceC 96 ad cy X A D p l e (headSpec wsX2_isBlank rmX2_isBlank).room s m args below meth c 1 r0 σ0 24 [] [] σ) h (fun y24 h => ?_) (fun j24 hj24 h => ?_)
  · refine q_iconst C (v := 1) dX2_isBlank_24 (by decide) ?_
    refine q_goto C (tgt := 29) dX2_isBlank_25 (by decide) ?_
    exact q_sub [] rfl (hj29 (1 : Int32) h)
  refine q_icmp_eq C (tgt := 24) dX2_isBlank_3 (by decide) h (fun h => ?_) (fun h => ?_)
  · exact q_sub [] rfl (hj24 () h)
  · refine q_iload_n C dX2_isBlank_6 rfl 0 rfl ?_
    refine q_bipush C (v := 10) dX2_isBlank_7 (by decide) ?_
    refine q_icmp_eq C (tgt := 24) dX2_isBlank_9 (by decide) h (fun h => ?_) (fun h => ?_)
    · exact q_sub [] rfl (hj24 () h)
    · refine q_iload_n C dX2_isBlank_12 rfl 0 rfl ?_
      refine q_bipush C (v := 13) dX2_isBlank_13 (by decide) ?_
      refine q_icmp_eq C (tgt := 24) dX2_isBlank_15 (by decide) h (fun h => ?_) (fun h => ?_)
      · exact q_sub [] rfl (hj24 () h)
      · refine q_iload_n C dX2_isBlank_18 rfl 0 rfl ?_
        refine q_bipush C (v := 32) dX2_isBlank_19 (by decide) ?_
        refine q_icmp_ne C (tgt := 28) dX2_isBlank_21 (by decide) h (fun h => ?_) (fun h => ?_)
        · refine q_iconst C (v := 0) dX2_isBlank_28 (by decide) ?_
          exact q_sub [] rfl (hj29 (0 : Int32) h)
        · exact q_sub [] rfl (hj24 () h)
abbrev rmX2_isLetter : Room := { frames := 0, cells := 0, slots := 0, locals := 0 }
theorem hyX2_isLetter : yX2_isLetter.cls ≠ "java/lang/invoke/MethodHandle" ∧ yX2_isLetter.cls ≠ "java/lang/invoke/VarHandle" ∧ (parseMethodDescriptor yX2_isLetter.desc).map (fun d => d.parameters.length) = some 1 := by decide +kernel
def fX2_isLetter (σ : St) (a0 : Int32) : Option (Int32 × St) := qlet (fun (y17 : Int32) => (qzz y17 (some (y17, σ)))) (fun j17 => (qlet (fun (y16 : Unit) => (j17 (0 : Int32))) (fun j16 => (if a0 < (97 : Int32) then (j16 ()) else (if (122 : Int32) < a0 then (j16 ()) else (j17 (1 : Int32)))))))
set_option maxHeartbeats 4000000 in
set_option maxRecDepth 100000 in
theorem kX2_isLetter (l : Launch) (D : va_G) (ad : Nat → Nat) (cy : Nat → ClassId) (X : va_W) (A : Nat → Prop) (zs : Nat × Nat × Option Nat) (σ : St) (a0 : Int32) (r0 : Int32) (σ0 : St) (h : fX2_isLetter σ a0 = some (r0, σ0)) : Met l yX2_isLetter wsX2_isLetter rmX2_isLetter (qPc ceC 96 ad cy X A D zs [.int a0] σ) (qQi ceC 96 ad cy X A D r0 σ0) 0 0 A := by
  refine Met.ofW (cc := cX2_isLetter) (maxL := 1) (ret := (some .boolean)) (by decide) rfl ?_
  intro p e s m args below meth c s₁ B hml hv
  obtain ⟨ha, hP, hK, hE, hD⟩ := hv
  have C : qC ceC 96 ad cy X A D zs cX2_isLetter 1 RX2 wsX2_isLetter p s m args meth c (some .boolean) := ⟨B.exec, B.bytes, hml, findClass_of_methodNamed B.named, atoms_spec (ws := wsX2_isLetter) B.pre, hK, hD, B.returns, B.notSynchronized, hE⟩
  rw [show entryFrame m args 1 = entryFrame m ([.int a0] : List Value).toArray 1 by rw [ha]]
  refine q_entry (A := A) (Nat.le_of_ble_eq_true rfl) hP (lv := [(0, .int a0)]) rfl ?_
  unfold fX2_isLetter at h
  refine q_iload_n C dX2_isLetter_0 rfl 0 rfl ?_
  refine q_bipush C (v := 97) dX2_isLetter_1 (by decide) ?_
  refine q_join (G := fun (y17 : Int32) => qVi ceC 96 ad cy X A D p l e (headSpec wsX2_isLetter rmX2_isLetter).room s m args below meth c 1 r0 σ0 17 [] [.int y17] σ) h (fun y17 h => ?_) (fun j17 hj17 h => ?_)
  · exact q_zret C rfl dX2_isLetter_17 h
  refine q_join (G := fun (y16 : Unit) => qVi ceC 96 ad cy X A D p l e (headSpec wsX2_isLetter rmX2_isLetter).room s m args below meth c 1 r0 σ0 16 [] [] σ) h (fun y16 h => ?_) (fun j16 hj16 h => ?_)
  · refine q_iconst C (v := 0) dX2_isLetter_16 (by decide) ?_
    exact q_sub [] rfl (hj17 (0 : Int32) h)
  refine q_icmp_lt C (tgt := 16) dX2_isLetter_3 (by decide) h (fun h => ?_) (fun h => ?_)
  · exact q_sub [] rfl (hj16 () h)
  · refine q_iload_n C dX2_isLetter_6 rfl 0 rfl ?_
    refine q_bipush C (v := 122) dX2_isLetter_7 (by decide) ?_
    refine q_icmp_gt C (tgt := 16) dX2_isLetter_9 (by decide) h (fun h => ?_) (fun h => ?_)
    · exact q_sub [] rfl (hj16 () h)
    · refine q_iconst C (v := 1) dX2_isLetter_12 (by decide) ?_
      refine q_goto C (tgt := 17) dX2_isLetter_13 (by decide) ?_
      exact q_sub [] rfl (hj17 (1 : Int32) h)
abbrev rmX2_isWord : Room := { frames := 4, cells := 0, slots := 0, locals := 85 }
theorem hyX2_isWord : yX2_isWord.cls = RX2 ∧ yX2_isWord.cls ≠ "java/lang/invoke/MethodHandle" ∧ yX2_isWord.cls ≠ "java/lang/invoke/VarHandle" ∧ (parseMethodDescriptor yX2_isWord.desc).map (fun d => d.parameters.length) = some 2 := by decide +kernel
theorem nX2_isWord_X2 : ∀ w ∈ u_ws RX2 TX2 10, w ∈ wsX2_isWord := fun w h => List.mem_cons_of_mem _ (List.mem_append_right _ h)
theorem hX2_isWord_22 : Cond.fieldLink RX2 22 (TX2 4).1 (TX2 4).2.1 (TX2 4).2.2.1 ∈ wsX2_isWord := by decide +kernel
theorem hX2_isWord_38 : Cond.fieldLink RX2 38 (TX2 9).1 (TX2 9).2.1 (TX2 9).2.2.1 ∈ wsX2_isWord := by decide +kernel
theorem hX2_isWord_41 : Cond.fieldLink RX2 41 (TX2 2).1 (TX2 2).2.1 (TX2 2).2.2.1 ∈ wsX2_isWord := by decide +kernel
def fX2_isWord_L (a1 : Int32) (a2 : Int32) : Nat → Int32 → St → Option (Int32 × St)
  | 0, _, _ => none
  | n + 1, v3, σ => if a2 ≤ v3 then (qzz (1 : Int32) (some ((1 : Int32), σ))) else (qix v3 71 (qix (((σ.1 34 9) + v3) - a1) 2000 (if (wordsAt v3.toNatClampNeg) = (σ.1 1 (((σ.1 34 9) + v3) - a1).toNatClampNeg) then (qlet (v3 + (1 : Int32)) (fun x48 => fX2_isWord_L a1 a2 n x48 σ)) else (qzz (0 : Int32) (some ((0 : Int32), σ))))))
def fX2_isWord (σ : St) (a1 : Int32) (a2 : Int32) : Option (Int32 × St) := if (a2 - a1) = ((σ.1 34 4) - (σ.1 34 9)) then (fX2_isWord_L a1 a2 100000 a1 σ) else (qzz (0 : Int32) (some ((0 : Int32), σ)))
set_option maxHeartbeats 4000000 in
set_option maxRecDepth 100000 in
theorem kX2_isWord_L {ad : Nat → Nat} {cy : Nat → ClassId} {X : va_W} {A : Nat → Prop} {D : va_G} {zs : Nat × Nat × Option Nat} {p : Program} {l : Launch} {e : Env} {s : State} {m : MethodId} {args : Array Value} {below : List Frame} {meth : Method} {c : Code} {a1 : Int32} {a2 : Int32} (C : qC ceC 96 ad cy X A D zs cX2_isWord 4 RX2 wsX2_isWord p s m args meth c (some .boolean)) (r0 : Int32) (σ0 : St) (n : Nat) : (∀ (v3 : Int32) (σ : St), fX2_isWord_L a1 a2 n v3 σ = some (r0, σ0) → qVi ceC 96 ad cy X A D p l e (headSpec wsX2_isWord rmX2_isWord).room s m args below meth c 4 r0 σ0 19 [(0, .ref (ad 34)), (1, .int a1), (2, .int a2), (3, .int v3)] [] σ) := by
  induction n with
  | zero =>
    intro v3 σ h; cases h
  | succ n ih =>
    intro v3 σ h
    rw [fX2_isWord_L] at h
    refine q_iload_n C dX2_isWord_19 rfl 3 rfl ?_
    refine q_iload_n C dX2_isWord_20 rfl 2 rfl ?_
    refine q_icmp_ge C (tgt := 54) dX2_isWord_21 (by decide) h (fun h => ?_) (fun h => ?_)
    · refine q_iconst C (v := 1) dX2_isWord_54 (by decide) ?_
      exact q_zret C rfl dX2_isWord_55 h
    · refine q_ldcS C rfl rfl dX2_isWord_24 ?_
      refine q_iload_n C dX2_isWord_26 rfl 3 rfl ?_
      refine q_charAt C gX2_isWord_J0_charAt_5068e ⟨Nat.le_of_ble_eq_true rfl, Nat.le_of_ble_eq_true rfl⟩ (Nat.le_of_ble_eq_true rfl) dX2_isWord_27 ⟨Nat.zero_le _, Nat.zero_le _⟩ h (fun h => ?_)
      refine q_aload_n C dX2_isWord_30 rfl 0 rfl ?_
      refine q_get C (Cn := RX2) (T := TX2) (Nf := 10) (ci := 2) (id := 34) (k := 2) (v := .ref (ad 1)) nX2_isWord_X2 (by decide) (ceC_34 ad cy _ _ _) rfl (by decide) rfl hX2_isWord_41 dX2_isWord_31 ?_
      refine q_aload_n C dX2_isWord_34 rfl 0 rfl ?_
      refine q_get C (Cn := RX2) (T := TX2) (Nf := 10) (ci := 2) (id := 34) (k := 9) (v := .int (σ.1 34 9)) nX2_isWord_X2 (by decide) (ceC_34 ad cy _ _ _) rfl (by decide) rfl hX2_isWord_38 dX2_isWord_35 ?_
      refine q_iload_n C dX2_isWord_38 rfl 3 rfl ?_
      refine q_iadd C dX2_isWord_39 ?_
      refine q_iload_n C dX2_isWord_40 rfl 1 rfl ?_
      refine q_isub C dX2_isWord_41 ?_
      refine q_bald C (id := 1) (by decide) (ceC_1 ad cy _ _ _) dX2_isWord_42 h (fun h => ?_)
      refine q_icmp_eq C (tgt := 48) dX2_isWord_43 (by decide) h (fun h => ?_) (fun h => ?_)
      · refine q_iincL C dX2_isWord_48 3 rfl (by decide) (nv := 1) (by decide) h (lw := fun x48 => [(0, .ref (ad 34)), (1, .int a1), (2, .int a2), (3, .int x48)]) (fun _ => rfl) (fun x48 h => ?_)
        refine q_goto C (tgt := 19) dX2_isWord_51 (by decide) ?_
        exact q_sub [0, 1, 2, 3] rfl (ih x48 σ h)
      · refine q_iconst C (v := 0) dX2_isWord_46 (by decide) ?_
        exact q_zret C rfl dX2_isWord_47 h
set_option maxHeartbeats 4000000 in
set_option maxRecDepth 100000 in
theorem kX2_isWord (l : Launch) (D : va_G) (ad : Nat → Nat) (cy : Nat → ClassId) (X : va_W) (A : Nat → Prop) (zs : Nat × Nat × Option Nat) (σ : St) (a1 : Int32) (a2 : Int32) (r0 : Int32) (σ0 : St) (h : fX2_isWord σ a1 a2 = some (r0, σ0)) : Met l yX2_isWord wsX2_isWord rmX2_isWord (qPc ceC 96 ad cy X A D zs [.ref (ad 34), .int a1, .int a2] σ) (qQi ceC 96 ad cy X A D r0 σ0) 0 0 A := by
  refine Met.ofW (cc := cX2_isWord) (maxL := 4) (ret := (some .boolean)) (by decide) rfl ?_
  intro p e s m args below meth c s₁ B hml hv
  obtain ⟨ha, hP, hK, hE, hD⟩ := hv
  have C : qC ceC 96 ad cy X A D zs cX2_isWord 4 RX2 wsX2_isWord p s m args meth c (some .boolean) := ⟨B.exec, B.bytes, hml, findClass_of_methodNamed B.named, atoms_spec (ws := wsX2_isWord) B.pre, hK, hD, B.returns, B.notSynchronized, hE⟩
  rw [show entryFrame m args 4 = entryFrame m ([.ref (ad 34), .int a1, .int a2] : List Value).toArray 4 by rw [ha]]
  refine q_entry (A := A) (Nat.le_of_ble_eq_true rfl) hP (lv := [(0, .ref (ad 34)), (1, .int a1), (2, .int a2)]) rfl ?_
  unfold fX2_isWord at h
  refine q_iload_n C dX2_isWord_0 rfl 2 rfl ?_
  refine q_iload_n C dX2_isWord_1 rfl 1 rfl ?_
  refine q_isub C dX2_isWord_2 ?_
  refine q_aload_n C dX2_isWord_3 rfl 0 rfl ?_
  refine q_get C (Cn := RX2) (T := TX2) (Nf := 10) (ci := 2) (id := 34) (k := 4) (v := .int (σ.1 34 4)) nX2_isWord_X2 (by decide) (ceC_34 ad cy _ _ _) rfl (by decide) rfl hX2_isWord_22 dX2_isWord_4 ?_
  refine q_aload_n C dX2_isWord_7 rfl 0 rfl ?_
  refine q_get C (Cn := RX2) (T := TX2) (Nf := 10) (ci := 2) (id := 34) (k := 9) (v := .int (σ.1 34 9)) nX2_isWord_X2 (by decide) (ceC_34 ad cy _ _ _) rfl (by decide) rfl hX2_isWord_38 dX2_isWord_8 ?_
  refine q_isub C dX2_isWord_11 ?_
  refine q_icmp_eq C (tgt := 17) dX2_isWord_12 (by decide) h (fun h => ?_) (fun h => ?_)
  · refine q_iload_n C dX2_isWord_17 rfl 1 rfl ?_
    refine q_istore_n C dX2_isWord_18 rfl (by decide) (lv' := [(0, .ref (ad 34)), (1, .int a1), (2, .int a2), (3, .int a1)]) rfl ?_
    exact q_sub [0, 1, 2, 3] rfl ((kX2_isWord_L C r0 σ0 100000) a1 σ h)
  · refine q_iconst C (v := 0) dX2_isWord_15 (by decide) ?_
    exact q_zret C rfl dX2_isWord_16 h
abbrev rmX2_scanWord : Room := { frames := 5, cells := 0, slots := 0, locals := 108 }
theorem hyX2_scanWord : yX2_scanWord.cls = RX2 ∧ yX2_scanWord.cls ≠ "java/lang/invoke/MethodHandle" ∧ yX2_scanWord.cls ≠ "java/lang/invoke/VarHandle" ∧ (parseMethodDescriptor yX2_scanWord.desc).map (fun d => d.parameters.length) = some 0 := by decide +kernel
theorem nX2_scanWord_X2 : ∀ w ∈ u_ws RX2 TX2 10, w ∈ wsX2_scanWord := fun w h => List.mem_cons_of_mem _ (List.mem_append_right _ h)
theorem hX2_scanWord_22 : Cond.fieldLink RX2 22 (TX2 4).1 (TX2 4).2.1 (TX2 4).2.2.1 ∈ wsX2_scanWord := by decide +kernel
theorem hX2_scanWord_19 : Cond.fieldLink RX2 19 (TX2 3).1 (TX2 3).2.1 (TX2 3).2.2.1 ∈ wsX2_scanWord := by decide +kernel
theorem hX2_scanWord_41 : Cond.fieldLink RX2 41 (TX2 2).1 (TX2 2).2.1 (TX2 2).2.2.1 ∈ wsX2_scanWord := by decide +kernel
theorem hX2_scanWord_25 : Cond.fieldLink RX2 25 (TX2 5).1 (TX2 5).2.1 (TX2 5).2.2.1 ∈ wsX2_scanWord := by decide +kernel
def fX2_scanWord_L : Nat → Nat → Int32 → Int32 → St → Option (Int32 × St)
  | 0, _, _, _, _ => none
  | n + 1, lab, v1, v2, σ => if lab = 0 then (qlet (fun (y39 : St) => (qlet (sI y39 34 5 (0 : Int32)) (fun σ41 => fX2_scanWord_L n 1 (0 : Int32) (0 : Int32) σ41))) (fun j39 => (if (σ.1 34 3) ≤ (σ.1 34 4) then (j39 σ) else (qix (σ.1 34 4) 2000 (qcall (fX2_isLetter σ (σ.1 1 (σ.1 34 4).toNatClampNeg)) (fun r20 σ20 => if r20 = (0 : Int32) then (j39 σ20) else (qlet (sI σ20 34 4 ((σ20.1 34 4) + (1 : Int32))) (fun σ33 => fX2_scanWord_L n 0 0 0 σ33)))))))) else (if (71 : Int32) ≤ v2 then (qlet (sI σ 34 5 (26 : Int32)) (fun σ101 => some ((0 : Int32), σ101))) else (qix v2 71 (qlet (fun (y92 : Int32 × St) => (qlet (v2 + (1 : Int32)) (fun x92 => fX2_scanWord_L n 1 y92.1 x92 y92.2))) (fun j92 => (if (wordsAt v2.toNatClampNeg) = (32 : Int32) then (qcall (fX2_isWord σ v1 v2) (fun r71 σ71 => if r71 = (0 : Int32) then (qlet (sI σ71 34 5 ((σ71.1 34 5) + (1 : Int32))) (fun σ85 => qlet (v2 + (1 : Int32)) (fun x91 => j92 (x91, σ85)))) else (some ((0 : Int32), σ71)))) else (j92 (v1, σ)))))))
def fX2_scanWord (σ : St) : Option (Int32 × St) := fX2_scanWord_L 100000 0 0 0 σ
set_option maxHeartbeats 4000000 in
set_option maxRecDepth 100000 in
theorem kX2_scanWord_L {ad : Nat → Nat} {cy : Nat → ClassId} {X : va_W} {A : Nat → Prop} {D : va_G} {zs : Nat × Nat × Option Nat} {p : Program} {l : Launch} {e : Env} {s : State} {m : MethodId} {args : Array Value} {below : List Frame} {meth : Method} {c : Code} (C : qC ceC 96 ad cy X A D zs cX2_scanWord 3 RX2 wsX2_scanWord p s m args meth c none) (r0 : Int32) (σ0 : St) (n : Nat) : (∀ (σ : St), fX2_scanWord_L n 0 0 0 σ = some (r0, σ0) → qVv ceC 96 ad cy X A D p l e (headSpec wsX2_scanWord rmX2_scanWord).room s m args below meth c 3 r0 σ0 0 [(0, .ref (ad 34))] [] σ) ∧ (∀ (v1 : Int32) (v2 : Int32) (σ : St), fX2_scanWord_L n 1 v1 v2 σ = some (r0, σ0) → qVv ceC 96 ad cy X A D p l e (headSpec wsX2_scanWord rmX2_scanWord).room s m args below meth c 3 r0 σ0 48 [(0, .ref (ad 34)), (1, .int v1), (2, .int v2)] [] σ) := by
  induction n with
  | zero =>
    refine ⟨?_, ?_⟩
    · intro  σ h; cases h
    · intro v1 v2 σ h; cases h
  | succ n ih =>
    refine ⟨?_, ?_⟩
    · intro  σ h
      rw [fX2_scanWord_L] at h
      rw [if_pos rfl] at h
      refine q_aload_n C dX2_scanWord_0 rfl 0 rfl ?_
      refine q_get C (Cn := RX2) (T := TX2) (Nf := 10) (ci := 2) (id := 34) (k := 4) (v := .int (σ.1 34 4)) nX2_scanWord_X2 (by decide) (ceC_34 ad cy _ _ _) rfl (by decide) rfl hX2_scanWord_22 dX2_scanWord_1 ?_
      refine q_aload_n C dX2_scanWord_4 rfl 0 rfl ?_
      refine q_get C (Cn := RX2) (T := TX2) (Nf := 10) (ci := 2) (id := 34) (k := 3) (v := .int (σ.1 34 3)) nX2_scanWord_X2 (by decide) (ceC_34 ad cy _ _ _) rfl (by decide) rfl hX2_scanWord_19 dX2_scanWord_5 ?_
      refine q_join (G := fun (y39 : St) => qVv ceC 96 ad cy X A D p l e (headSpec wsX2_scanWord rmX2_scanWord).room s m args below meth c 3 r0 σ0 39 [(0, .ref (ad 34))] [] y39) h (fun y39 h => ?_) (fun j39 hj39 h => ?_)
      · refine q_aload_n C dX2_scanWord_39 rfl 0 rfl ?_
        refine q_iconst C (v := 0) dX2_scanWord_40 (by decide) ?_
        refine q_put C (Cn := RX2) (T := TX2) (ty0 := tyX2) (Nf := 10) (ci := 2) (id := 34) (k := 5) (y := 0) tyX2_ok nmX2 nX2_scanWord_X2 (by decide) (ceC_34 ad cy _ _ _) (ceC_34 ad cy _ _ _) rfl (by decide) rfl (by decide +kernel) (Nat.le_of_ble_eq_true rfl) hX2_scanWord_25 dX2_scanWord_41 h (fun σ41 h => ?_)
        refine q_iconst C (v := 0) dX2_scanWord_44 (by decide) ?_
        refine q_istore_n C dX2_scanWord_45 rfl (by decide) (lv' := [(0, .ref (ad 34)), (1, .int (0 : Int32))]) rfl ?_
        refine q_iconst C (v := 0) dX2_scanWord_46 (by decide) ?_
        refine q_istore_n C dX2_scanWord_47 rfl (by decide) (lv' := [(0, .ref (ad 34)), (1, .int (0 : Int32)), (2, .int (0 : Int32))]) rfl ?_
        exact q_sub [0, 1, 2] rfl (ih.2 (0 : Int32) (0 : Int32) σ41 h)
      refine q_icmp_ge C (tgt := 39) dX2_scanWord_8 (by decide) h (fun h => ?_) (fun h => ?_)
      · exact q_sub [0] rfl (hj39 σ h)
      · refine q_aload_n C dX2_scanWord_11 rfl 0 rfl ?_
        refine q_get C (Cn := RX2) (T := TX2) (Nf := 10) (ci := 2) (id := 34) (k := 2) (v := .ref (ad 1)) nX2_scanWord_X2 (by decide) (ceC_34 ad cy _ _ _) rfl (by decide) rfl hX2_scanWord_41 dX2_scanWord_12 ?_
        refine q_aload_n C dX2_scanWord_15 rfl 0 rfl ?_
        refine q_get C (Cn := RX2) (T := TX2) (Nf := 10) (ci := 2) (id := 34) (k := 4) (v := .int (σ.1 34 4)) nX2_scanWord_X2 (by decide) (ceC_34 ad cy _ _ _) rfl (by decide) rfl hX2_scanWord_22 dX2_scanWord_16 ?_
        refine q_bald C (id := 1) (by decide) (ceC_1 ad cy _ _ _) dX2_scanWord_19 h (fun h => ?_)
        refine q_callSi C (rm := rmX2_isLetter) (As := [.int (σ.1 1 (σ.1 34 4).toNatClampNeg)]) (rest := []) (fun r9 σ9 h9 => kX2_isLetter l D ad cy X A zs σ (σ.1 1 (σ.1 34 4).toNatClampNeg) r9 σ9 h9) gX2_scanWord_X2_isLetter rfl rfl rfl hyX2_isLetter ⟨Nat.le_of_ble_eq_true rfl, Nat.le_of_ble_eq_true rfl⟩ rfl rfl (Nat.le_of_ble_eq_true rfl) dX2_scanWord_20 ⟨Nat.zero_le _, Nat.zero_le _⟩ h (fun r20 σ20 h => ?_)
        refine q_if_eq C (tgt := 39) dX2_scanWord_23 (by decide) h (fun h => ?_) (fun h => ?_)
        · exact q_sub [0] rfl (hj39 σ20 h)
        · refine q_aload_n C dX2_scanWord_26 rfl 0 rfl ?_
          refine q_dup C dX2_scanWord_27 rfl ?_
          refine q_get C (Cn := RX2) (T := TX2) (Nf := 10) (ci := 2) (id := 34) (k := 4) (v := .int (σ20.1 34 4)) nX2_scanWord_X2 (by decide) (ceC_34 ad cy _ _ _) rfl (by decide) rfl hX2_scanWord_22 dX2_scanWord_28 ?_
          refine q_iconst C (v := 1) dX2_scanWord_31 (by decide) ?_
          refine q_iadd C dX2_scanWord_32 ?_
          refine q_put C (Cn := RX2) (T := TX2) (ty0 := tyX2) (Nf := 10) (ci := 2) (id := 34) (k := 4) (y := 0) tyX2_ok nmX2 nX2_scanWord_X2 (by decide) (ceC_34 ad cy _ _ _) (ceC_34 ad cy _ _ _) rfl (by decide) rfl (by decide +kernel) (Nat.le_of_ble_eq_true rfl) hX2_scanWord_22 dX2_scanWord_33 h (fun σ33 h => ?_)
          refine q_goto C (tgt := 0) dX2_scanWord_36 (by decide) ?_
          exact q_sub [0] rfl (ih.1 σ33 h)
    · intro v1 v2 σ h
      rw [fX2_scanWord_L] at h
      rw [if_neg (by decide)] at h
      refine q_iload_n C dX2_scanWord_48 rfl 2 rfl ?_
      refine q_ldcS C rfl rfl dX2_scanWord_49 ?_
      refine q_strlen C gX2_scanWord_J0_length_8abf5 ⟨Nat.le_of_ble_eq_true rfl, Nat.le_of_ble_eq_true rfl⟩ (Nat.le_of_ble_eq_true rfl) dX2_scanWord_51 ⟨Nat.zero_le _, Nat.zero_le _⟩ ?_
      refine q_icmp_ge C (tgt := 98) dX2_scanWord_54 (by decide) h (fun h => ?_) (fun h => ?_)
      · refine q_aload_n C dX2_scanWord_98 rfl 0 rfl ?_
        refine q_bipush C (v := 26) dX2_scanWord_99 (by decide) ?_
        refine q_put C (Cn := RX2) (T := TX2) (ty0 := tyX2) (Nf := 10) (ci := 2) (id := 34) (k := 5) (y := 0) tyX2_ok nmX2 nX2_scanWord_X2 (by decide) (ceC_34 ad cy _ _ _) (ceC_34 ad cy _ _ _) rfl (by decide) rfl (by decide +kernel) (Nat.le_of_ble_eq_true rfl) hX2_scanWord_25 dX2_scanWord_101 h (fun σ101 h => ?_)
        exact q_vret C (r0 := r0) rfl dX2_scanWord_104 h
      · refine q_ldcS C rfl rfl dX2_scanWord_57 ?_
        refine q_iload_n C dX2_scanWord_59 rfl 2 rfl ?_
        refine q_charAt C gX2_scanWord_J0_charAt_5068e ⟨Nat.le_of_ble_eq_true rfl, Nat.le_of_ble_eq_true rfl⟩ (Nat.le_of_ble_eq_true rfl) dX2_scanWord_60 ⟨Nat.zero_le _, Nat.zero_le _⟩ h (fun h => ?_)
        refine q_bipush C (v := 32) dX2_scanWord_63 (by decide) ?_
        refine q_join (G := fun (y92 : Int32 × St) => qVv ceC 96 ad cy X A D p l e (headSpec wsX2_scanWord rmX2_scanWord).room s m args below meth c 3 r0 σ0 92 [(0, .ref (ad 34)), (1, .int y92.1), (2, .int v2)] [] y92.2) h (fun y92 h => ?_) (fun j92 hj92 h => ?_)
        · refine q_iincL C dX2_scanWord_92 2 rfl (by decide) (nv := 1) (by decide) h (lw := fun x92 => [(0, .ref (ad 34)), (1, .int y92.1), (2, .int x92)]) (fun _ => rfl) (fun x92 h => ?_)
          refine q_goto C (tgt := 48) dX2_scanWord_95 (by decide) ?_
          exact q_sub [0, 1, 2] rfl (ih.2 y92.1 x92 y92.2 h)
        refine q_icmp_ne C (tgt := 92) dX2_scanWord_65 (by decide) h (fun h => ?_) (fun h => ?_)
        · exact q_sub [0, 1, 2] rfl (hj92 (v1, σ) h)
        · refine q_aload_n C dX2_scanWord_68 rfl 0 rfl ?_
          refine q_iload_n C dX2_scanWord_69 rfl 1 rfl ?_
          refine q_iload_n C dX2_scanWord_70 rfl 2 rfl ?_
          refine q_callVi C (rm := rmX2_isWord) (As := [.int v1, .int v2]) (rest := []) (id := 34) (ci := 2) (fun r9 σ9 h9 => kX2_isWord l D ad cy X A zs σ v1 v2 r9 σ9 h9) gX2_scanWord_X2_isWord rfl rfl rfl hyX2_isWord ⟨Nat.le_of_ble_eq_true rfl, Nat.le_of_ble_eq_true rfl⟩ (by decide) (ceC_34 ad cy _ _ _) rfl rfl rfl (Nat.le_of_ble_eq_true rfl) dX2_scanWord_71 ⟨Nat.zero_le _, Nat.zero_le _⟩ h (fun r71 σ71 h => ?_)
          refine q_if_eq C (tgt := 78) dX2_scanWord_74 (by decide) h (fun h => ?_) (fun h => ?_)
          · refine q_aload_n C dX2_scanWord_78 rfl 0 rfl ?_
            refine q_dup C dX2_scanWord_79 rfl ?_
            refine q_get C (Cn := RX2) (T := TX2) (Nf := 10) (ci := 2) (id := 34) (k := 5) (v := .int (σ71.1 34 5)) nX2_scanWord_X2 (by decide) (ceC_34 ad cy _ _ _) rfl (by decide) rfl hX2_scanWord_25 dX2_scanWord_80 ?_
            refine q_iconst C (v := 1) dX2_scanWord_83 (by decide) ?_
            refine q_iadd C dX2_scanWord_84 ?_
            refine q_put C (Cn := RX2) (T := TX2) (ty0 := tyX2) (Nf := 10) (ci := 2) (id := 34) (k := 5) (y := 0) tyX2_ok nmX2 nX2_scanWord_X2 (by decide) (ceC_34 ad cy _ _ _) (ceC_34 ad cy _ _ _) rfl (by decide) rfl (by decide +kernel) (Nat.le_of_ble_eq_true rfl) hX2_scanWord_25 dX2_scanWord_85 h (fun σ85 h => ?_)
            refine q_iload_n C dX2_scanWord_88 rfl 2 rfl ?_
            refine q_iconst C (v := 1) dX2_scanWord_89 (by decide) ?_
            refine q_iadd C dX2_scanWord_90 ?_
            refine q_istore_nL C dX2_scanWord_91 rfl (by decide) h (lw := fun x91 => [(0, .ref (ad 34)), (1, .int x91), (2, .int v2)]) (fun _ => rfl) (fun x91 h => ?_)
            exact q_sub [0, 1, 2] rfl (hj92 (x91, σ85) h)
          · exact q_vret C (r0 := r0) rfl dX2_scanWord_77 h
set_option maxHeartbeats 4000000 in
set_option maxRecDepth 100000 in
theorem kX2_scanWord (l : Launch) (D : va_G) (ad : Nat → Nat) (cy : Nat → ClassId) (X : va_W) (A : Nat → Prop) (zs : Nat × Nat × Option Nat) (σ : St) (r0 : Int32) (σ0 : St) (h : fX2_scanWord σ = some (r0, σ0)) : Met l yX2_scanWord wsX2_scanWord rmX2_scanWord (qPc ceC 96 ad cy X A D zs [.ref (ad 34)] σ) (qQv ceC 96 ad cy X A D σ0) 0 0 A := by
  refine Met.ofW (cc := cX2_scanWord) (maxL := 3) (ret := none) (by decide) rfl ?_
  intro p e s m args below meth c s₁ B hml hv
  obtain ⟨ha, hP, hK, hE, hD⟩ := hv
  have C : qC ceC 96 ad cy X A D zs cX2_scanWord 3 RX2 wsX2_scanWord p s m args meth c none := ⟨B.exec, B.bytes, hml, findClass_of_methodNamed B.named, atoms_spec (ws := wsX2_scanWord) B.pre, hK, hD, B.returns, B.notSynchronized, hE⟩
  rw [show entryFrame m args 3 = entryFrame m ([.ref (ad 34)] : List Value).toArray 3 by rw [ha]]
  refine q_entry (A := A) (Nat.le_of_ble_eq_true rfl) hP (lv := [(0, .ref (ad 34))]) rfl ?_
  unfold fX2_scanWord at h
  exact q_sub [0] rfl ((kX2_scanWord_L C r0 σ0 100000).1 σ h)
abbrev rmX2_isDigit : Room := { frames := 0, cells := 0, slots := 0, locals := 0 }
theorem hyX2_isDigit : yX2_isDigit.cls ≠ "java/lang/invoke/MethodHandle" ∧ yX2_isDigit.cls ≠ "java/lang/invoke/VarHandle" ∧ (parseMethodDescriptor yX2_isDigit.desc).map (fun d => d.parameters.length) = some 1 := by decide +kernel
def fX2_isDigit (σ : St) (a0 : Int32) : Option (Int32 × St) := qlet (fun (y17 : Int32) => (qzz y17 (some (y17, σ)))) (fun j17 => (qlet (fun (y16 : Unit) => (j17 (0 : Int32))) (fun j16 => (if a0 < (48 : Int32) then (j16 ()) else (if (57 : Int32) < a0 then (j16 ()) else (j17 (1 : Int32)))))))
set_option maxHeartbeats 4000000 in
set_option maxRecDepth 100000 in
theorem kX2_isDigit (l : Launch) (D : va_G) (ad : Nat → Nat) (cy : Nat → ClassId) (X : va_W) (A : Nat → Prop) (zs : Nat × Nat × Option Nat) (σ : St) (a0 : Int32) (r0 : Int32) (σ0 : St) (h : fX2_isDigit σ a0 = some (r0, σ0)) : Met l yX2_isDigit wsX2_isDigit rmX2_isDigit (qPc ceC 96 ad cy X A D zs [.int a0] σ) (qQi ceC 96 ad cy X A D r0 σ0) 0 0 A := by
  refine Met.ofW (cc := cX2_isDigit) (maxL := 1) (ret := (some .boolean)) (by decide) rfl ?_
  intro p e s m args below meth c s₁ B hml hv
  obtain ⟨ha, hP, hK, hE, hD⟩ := hv
  have C : qC ceC 96 ad cy X A D zs cX2_isDigit 1 RX2 wsX2_isDigit p s m args meth c (some .boolean) := ⟨B.exec, B.bytes, hml, findClass_of_methodNamed B.named, atoms_spec (ws := wsX2_isDigit) B.pre, hK, hD, B.returns, B.notSynchronized, hE⟩
  rw [show entryFrame m args 1 = entryFrame m ([.int a0] : List Value).toArray 1 by rw [ha]]
  refine q_entry (A := A) (Nat.le_of_ble_eq_true rfl) hP (lv := [(0, .int a0)]) rfl ?_
  unfold fX2_isDigit at h
  refine q_iload_n C dX2_isDigit_0 rfl 0 rfl ?_
  refine q_bipush C (v := 48) dX2_isDigit_1 (by decide) ?_
  refine q_join (G := fun (y17 : Int32) => qVi ceC 96 ad cy X A D p l e (headSpec wsX2_isDigit rmX2_isDigit).room s m args below meth c 1 r0 σ0 17 [] [.int y17] σ) h (fun y17 h => ?_) (fun j17 hj17 h => ?_)
  · exact q_zret C rfl dX2_isDigit_17 h
  refine q_join (G := fun (y16 : Unit) => qVi ceC 96 ad cy X A D p l e (headSpec wsX2_isDigit rmX2_isDigit).room s m args below meth c 1 r0 σ0 16 [] [] σ) h (fun y16 h => ?_) (fun j16 hj16 h => ?_)
  · refine q_iconst C (v := 0) dX2_isDigit_16 (by decide) ?_
    exact q_sub [] rfl (hj17 (0 : Int32) h)
  refine q_icmp_lt C (tgt := 16) dX2_isDigit_3 (by decide) h (fun h => ?_) (fun h => ?_)
  · exact q_sub [] rfl (hj16 () h)
  · refine q_iload_n C dX2_isDigit_6 rfl 0 rfl ?_
    refine q_bipush C (v := 57) dX2_isDigit_7 (by decide) ?_
    refine q_icmp_gt C (tgt := 16) dX2_isDigit_9 (by decide) h (fun h => ?_) (fun h => ?_)
    · exact q_sub [] rfl (hj16 () h)
    · refine q_iconst C (v := 1) dX2_isDigit_12 (by decide) ?_
      refine q_goto C (tgt := 17) dX2_isDigit_13 (by decide) ?_
      exact q_sub [] rfl (hj17 (1 : Int32) h)
abbrev rmX2_scanInt : Room := { frames := 1, cells := 0, slots := 0, locals := 20 }
theorem hyX2_scanInt : yX2_scanInt.cls = RX2 ∧ yX2_scanInt.cls ≠ "java/lang/invoke/MethodHandle" ∧ yX2_scanInt.cls ≠ "java/lang/invoke/VarHandle" ∧ (parseMethodDescriptor yX2_scanInt.desc).map (fun d => d.parameters.length) = some 0 := by decide +kernel
theorem nX2_scanInt_X2 : ∀ w ∈ u_ws RX2 TX2 10, w ∈ wsX2_scanInt := by decide +kernel
theorem hX2_scanInt_28 : Cond.fieldLink RX2 28 (TX2 6).1 (TX2 6).2.1 (TX2 6).2.2.1 ∈ wsX2_scanInt := by decide +kernel
theorem hX2_scanInt_22 : Cond.fieldLink RX2 22 (TX2 4).1 (TX2 4).2.1 (TX2 4).2.2.1 ∈ wsX2_scanInt := by decide +kernel
theorem hX2_scanInt_19 : Cond.fieldLink RX2 19 (TX2 3).1 (TX2 3).2.1 (TX2 3).2.2.1 ∈ wsX2_scanInt := by decide +kernel
theorem hX2_scanInt_41 : Cond.fieldLink RX2 41 (TX2 2).1 (TX2 2).2.1 (TX2 2).2.2.1 ∈ wsX2_scanInt := by decide +kernel
theorem hX2_scanInt_38 : Cond.fieldLink RX2 38 (TX2 9).1 (TX2 9).2.1 (TX2 9).2.2.1 ∈ wsX2_scanInt := by decide +kernel
theorem hX2_scanInt_25 : Cond.fieldLink RX2 25 (TX2 5).1 (TX2 5).2.1 (TX2 5).2.2.1 ∈ wsX2_scanInt := by decide +kernel
def fX2_scanInt_L : Nat → St → Option (Int32 × St)
  | 0, _ => none
  | n + 1, σ => qlet (fun (y68 : St) => (qlet (fun (y89 : Int32) => (qlet (sI y68 34 5 y89) (fun σ89 => some ((0 : Int32), σ89)))) (fun j89 => (if ((y68.1 34 4) - (y68.1 34 9)) ≤ (4 : Int32) then (j89 (14 : Int32)) else (j89 (26 : Int32)))))) (fun j68 => (if (σ.1 34 3) ≤ (σ.1 34 4) then (j68 σ) else (qix (σ.1 34 4) 2000 (qcall (fX2_isDigit σ (σ.1 1 (σ.1 34 4).toNatClampNeg)) (fun r25 σ25 => if r25 = (0 : Int32) then (j68 σ25) else (qix (σ25.1 34 4) 2000 (qlet (sI σ25 34 6 ((((σ25.1 34 6) * (10 : Int32)) + (σ25.1 1 (σ25.1 34 4).toNatClampNeg)) - (48 : Int32))) (fun σ52 => qlet (sI σ52 34 4 ((σ52.1 34 4) + (1 : Int32))) (fun σ62 => fX2_scanInt_L n σ62)))))))))
def fX2_scanInt (σ : St) : Option (Int32 × St) := qlet (sI σ 34 6 (0 : Int32)) (fun σ2 => fX2_scanInt_L 100000 σ2)
set_option maxHeartbeats 4000000 in
set_option maxRecDepth 100000 in
theorem kX2_scanInt_L {ad : Nat → Nat} {cy : Nat → ClassId} {X : va_W} {A : Nat → Prop} {D : va_G} {zs : Nat × Nat × Option Nat} {p : Program} {l : Launch} {e : Env} {s : State} {m : MethodId} {args : Array Value} {below : List Frame} {meth : Method} {c : Code} (C : qC ceC 96 ad cy X A D zs cX2_scanInt 1 RX2 wsX2_scanInt p s m args meth c none) (r0 : Int32) (σ0 : St) (n : Nat) : (∀ (σ : St), fX2_scanInt_L n σ = some (r0, σ0) → qVv ceC 96 ad cy X A D p l e (headSpec wsX2_scanInt rmX2_scanInt).room s m args below meth c 1 r0 σ0 5 [(0, .ref (ad 34))] [] σ) := by
  induction n with
  | zero =>
    intro  σ h; cases h
  | succ n ih =>
    intro  σ h
    rw [fX2_scanInt_L] at h
    refine q_aload_n C dX2_scanInt_5 rfl 0 rfl ?_
    refine q_get C (Cn := RX2) (T := TX2) (Nf := 10) (ci := 2) (id := 34) (k := 4) (v := .int (σ.1 34 4)) nX2_scanInt_X2 (by decide) (ceC_34 ad cy _ _ _) rfl (by decide) rfl hX2_scanInt_22 dX2_scanInt_6 ?_
    refine q_aload_n C dX2_scanInt_9 rfl 0 rfl ?_
    refine q_get C (Cn := RX2) (T := TX2) (Nf := 10) (ci := 2) (id := 34) (k := 3) (v := .int (σ.1 34 3)) nX2_scanInt_X2 (by decide) (ceC_34 ad cy _ _ _) rfl (by decide) rfl hX2_scanInt_19 dX2_scanInt_10 ?_
    refine q_join (G := fun (y68 : St) => qVv ceC 96 ad cy X A D p l e (headSpec wsX2_scanInt rmX2_scanInt).room s m args below meth c 1 r0 σ0 68 [(0, .ref (ad 34))] [] y68) h (fun y68 h => ?_) (fun j68 hj68 h => ?_)
    · refine q_aload_n C dX2_scanInt_68 rfl 0 rfl ?_
      refine q_aload_n C dX2_scanInt_69 rfl 0 rfl ?_
      refine q_get C (Cn := RX2) (T := TX2) (Nf := 10) (ci := 2) (id := 34) (k := 4) (v := .int (y68.1 34 4)) nX2_scanInt_X2 (by decide) (ceC_34 ad cy _ _ _) rfl (by decide) rfl hX2_scanInt_22 dX2_scanInt_70 ?_
      refine q_aload_n C dX2_scanInt_73 rfl 0 rfl ?_
      refine q_get C (Cn := RX2) (T := TX2) (Nf := 10) (ci := 2) (id := 34) (k := 9) (v := .int (y68.1 34 9)) nX2_scanInt_X2 (by decide) (ceC_34 ad cy _ _ _) rfl (by decide) rfl hX2_scanInt_38 dX2_scanInt_74 ?_
      refine q_isub C dX2_scanInt_77 ?_
      refine q_iconst C (v := 4) dX2_scanInt_78 (by decide) ?_
      refine q_join (G := fun (y89 : Int32) => qVv ceC 96 ad cy X A D p l e (headSpec wsX2_scanInt rmX2_scanInt).room s m args below meth c 1 r0 σ0 89 [] [.int y89, .ref (ad 34)] y68) h (fun y89 h => ?_) (fun j89 hj89 h => ?_)
      · refine q_put C (Cn := RX2) (T := TX2) (ty0 := tyX2) (Nf := 10) (ci := 2) (id := 34) (k := 5) (y := 0) tyX2_ok nmX2 nX2_scanInt_X2 (by decide) (ceC_34 ad cy _ _ _) (ceC_34 ad cy _ _ _) rfl (by decide) rfl (by decide +kernel) (Nat.le_of_ble_eq_true rfl) hX2_scanInt_25 dX2_scanInt_89 h (fun σ89 h => ?_)
        exact q_vret C (r0 := r0) rfl dX2_scanInt_92 h
      refine q_icmp_le C (tgt := 87) dX2_scanInt_79 (by decide) h (fun h => ?_) (fun h => ?_)
      · refine q_bipush C (v := 14) dX2_scanInt_87 (by decide) ?_
        exact q_sub [] rfl (hj89 (14 : Int32) h)
      · refine q_bipush C (v := 26) dX2_scanInt_82 (by decide) ?_
        refine q_goto C (tgt := 89) dX2_scanInt_84 (by decide) ?_
        exact q_sub [] rfl (hj89 (26 : Int32) h)
    refine q_icmp_ge C (tgt := 68) dX2_scanInt_13 (by decide) h (fun h => ?_) (fun h => ?_)
    · exact q_sub [0] rfl (hj68 σ h)
    · refine q_aload_n C dX2_scanInt_16 rfl 0 rfl ?_
      refine q_get C (Cn := RX2) (T := TX2) (Nf := 10) (ci := 2) (id := 34) (k := 2) (v := .ref (ad 1)) nX2_scanInt_X2 (by decide) (ceC_34 ad cy _ _ _) rfl (by decide) rfl hX2_scanInt_41 dX2_scanInt_17 ?_
      refine q_aload_n C dX2_scanInt_20 rfl 0 rfl ?_
      refine q_get C (Cn := RX2) (T := TX2) (Nf := 10) (ci := 2) (id := 34) (k := 4) (v := .int (σ.1 34 4)) nX2_scanInt_X2 (by decide) (ceC_34 ad cy _ _ _) rfl (by decide) rfl hX2_scanInt_22 dX2_scanInt_21 ?_
      refine q_bald C (id := 1) (by decide) (ceC_1 ad cy _ _ _) dX2_scanInt_24 h (fun h => ?_)
      refine q_callSi C (rm := rmX2_isDigit) (As := [.int (σ.1 1 (σ.1 34 4).toNatClampNeg)]) (rest := []) (fun r9 σ9 h9 => kX2_isDigit l D ad cy X A zs σ (σ.1 1 (σ.1 34 4).toNatClampNeg) r9 σ9 h9) gX2_scanInt_X2_isDigit rfl rfl rfl hyX2_isDigit ⟨Nat.le_of_ble_eq_true rfl, Nat.le_of_ble_eq_true rfl⟩ rfl rfl (Nat.le_of_ble_eq_true rfl) dX2_scanInt_25 ⟨Nat.zero_le _, Nat.zero_le _⟩ h (fun r25 σ25 h => ?_)
      refine q_if_eq C (tgt := 68) dX2_scanInt_28 (by decide) h (fun h => ?_) (fun h => ?_)
      · exact q_sub [0] rfl (hj68 σ25 h)
      · refine q_aload_n C dX2_scanInt_31 rfl 0 rfl ?_
        refine q_aload_n C dX2_scanInt_32 rfl 0 rfl ?_
        refine q_get C (Cn := RX2) (T := TX2) (Nf := 10) (ci := 2) (id := 34) (k := 6) (v := .int (σ25.1 34 6)) nX2_scanInt_X2 (by decide) (ceC_34 ad cy _ _ _) rfl (by decide) rfl hX2_scanInt_28 dX2_scanInt_33 ?_
        refine q_bipush C (v := 10) dX2_scanInt_36 (by decide) ?_
        refine q_imul C dX2_scanInt_38 ?_
        refine q_aload_n C dX2_scanInt_39 rfl 0 rfl ?_
        refine q_get C (Cn := RX2) (T := TX2) (Nf := 10) (ci := 2) (id := 34) (k := 2) (v := .ref (ad 1)) nX2_scanInt_X2 (by decide) (ceC_34 ad cy _ _ _) rfl (by decide) rfl hX2_scanInt_41 dX2_scanInt_40 ?_
        refine q_aload_n C dX2_scanInt_43 rfl 0 rfl ?_
        refine q_get C (Cn := RX2) (T := TX2) (Nf := 10) (ci := 2) (id := 34) (k := 4) (v := .int (σ25.1 34 4)) nX2_scanInt_X2 (by decide) (ceC_34 ad cy _ _ _) rfl (by decide) rfl hX2_scanInt_22 dX2_scanInt_44 ?_
        refine q_bald C (id := 1) (by decide) (ceC_1 ad cy _ _ _) dX2_scanInt_47 h (fun h => ?_)
        refine q_iadd C dX2_scanInt_48 ?_
        refine q_bipush C (v := 48) dX2_scanInt_49 (by decide) ?_
        refine q_isub C dX2_scanInt_51 ?_
        refine q_put C (Cn := RX2) (T := TX2) (ty0 := tyX2) (Nf := 10) (ci := 2) (id := 34) (k := 6) (y := 0) tyX2_ok nmX2 nX2_scanInt_X2 (by decide) (ceC_34 ad cy _ _ _) (ceC_34 ad cy _ _ _) rfl (by decide) rfl (by decide +kernel) (Nat.le_of_ble_eq_true rfl) hX2_scanInt_28 dX2_scanInt_52 h (fun σ52 h => ?_)
        refine q_aload_n C dX2_scanInt_55 rfl 0 rfl ?_
        refine q_dup C dX2_scanInt_56 rfl ?_
        refine q_get C (Cn := RX2) (T := TX2) (Nf := 10) (ci := 2) (id := 34) (k := 4) (v := .int (σ52.1 34 4)) nX2_scanInt_X2 (by decide) (ceC_34 ad cy _ _ _) rfl (by decide) rfl hX2_scanInt_22 dX2_scanInt_57 ?_
        refine q_iconst C (v := 1) dX2_scanInt_60 (by decide) ?_
        refine q_iadd C dX2_scanInt_61 ?_
        refine q_put C (Cn := RX2) (T := TX2) (ty0 := tyX2) (Nf := 10) (ci := 2) (id := 34) (k := 4) (y := 0) tyX2_ok nmX2 nX2_scanInt_X2 (by decide) (ceC_34 ad cy _ _ _) (ceC_34 ad cy _ _ _) rfl (by decide) rfl (by decide +kernel) (Nat.le_of_ble_eq_true rfl) hX2_scanInt_22 dX2_scanInt_62 h (fun σ62 h => ?_)
        refine q_goto C (tgt := 5) dX2_scanInt_65 (by decide) ?_
        exact q_sub [0] rfl (ih σ62 h)
set_option maxHeartbeats 4000000 in
set_option maxRecDepth 100000 in
theorem kX2_scanInt (l : Launch) (D : va_G) (ad : Nat → Nat) (cy : Nat → ClassId) (X : va_W) (A : Nat → Prop) (zs : Nat × Nat × Option Nat) (σ : St) (r0 : Int32) (σ0 : St) (h : fX2_scanInt σ = some (r0, σ0)) : Met l yX2_scanInt wsX2_scanInt rmX2_scanInt (qPc ceC 96 ad cy X A D zs [.ref (ad 34)] σ) (qQv ceC 96 ad cy X A D σ0) 0 0 A := by
  refine Met.ofW (cc := cX2_scanInt) (maxL := 1) (ret := none) (by decide) rfl ?_
  intro p e s m args below meth c s₁ B hml hv
  obtain ⟨ha, hP, hK, hE, hD⟩ := hv
  have C : qC ceC 96 ad cy X A D zs cX2_scanInt 1 RX2 wsX2_scanInt p s m args meth c none := ⟨B.exec, B.bytes, hml, findClass_of_methodNamed B.named, atoms_spec (ws := wsX2_scanInt) B.pre, hK, hD, B.returns, B.notSynchronized, hE⟩
  rw [show entryFrame m args 1 = entryFrame m ([.ref (ad 34)] : List Value).toArray 1 by rw [ha]]
  refine q_entry (A := A) (Nat.le_of_ble_eq_true rfl) hP (lv := [(0, .ref (ad 34))]) rfl ?_
  unfold fX2_scanInt at h
  refine q_aload_n C dX2_scanInt_0 rfl 0 rfl ?_
  refine q_iconst C (v := 0) dX2_scanInt_1 (by decide) ?_
  refine q_put C (Cn := RX2) (T := TX2) (ty0 := tyX2) (Nf := 10) (ci := 2) (id := 34) (k := 6) (y := 0) tyX2_ok nmX2 nX2_scanInt_X2 (by decide) (ceC_34 ad cy _ _ _) (ceC_34 ad cy _ _ _) rfl (by decide) rfl (by decide +kernel) (Nat.le_of_ble_eq_true rfl) hX2_scanInt_28 dX2_scanInt_2 h (fun σ2 h => ?_)
  exact q_sub [0] rfl ((kX2_scanInt_L C r0 σ0 100000) σ2 h)
abbrev rmX2_pairKind : Room := { frames := 0, cells := 0, slots := 0, locals := 0 }
theorem hyX2_pairKind : yX2_pairKind.cls ≠ "java/lang/invoke/MethodHandle" ∧ yX2_pairKind.cls ≠ "java/lang/invoke/VarHandle" ∧ (parseMethodDescriptor yX2_pairKind.desc).map (fun d => d.parameters.length) = some 1 := by decide +kernel
def fX2_pairKind (σ : St) (a0 : Int32) : Option (Int32 × St) := if a0 = (33 : Int32) then (some ((20 : Int32), σ)) else (if a0 = (60 : Int32) then (some ((22 : Int32), σ)) else (if a0 = (61 : Int32) then (some ((19 : Int32), σ)) else (some ((26 : Int32), σ))))
set_option maxHeartbeats 4000000 in
set_option maxRecDepth 100000 in
theorem kX2_pairKind (l : Launch) (D : va_G) (ad : Nat → Nat) (cy : Nat → ClassId) (X : va_W) (A : Nat → Prop) (zs : Nat × Nat × Option Nat) (σ : St) (a0 : Int32) (r0 : Int32) (σ0 : St) (h : fX2_pairKind σ a0 = some (r0, σ0)) : Met l yX2_pairKind wsX2_pairKind rmX2_pairKind (qPc ceC 96 ad cy X A D zs [.int a0] σ) (qQi ceC 96 ad cy X A D r0 σ0) 0 0 A := by
  refine Met.ofW (cc := cX2_pairKind) (maxL := 1) (ret := (some .int)) (by decide) rfl ?_
  intro p e s m args below meth c s₁ B hml hv
  obtain ⟨ha, hP, hK, hE, hD⟩ := hv
  have C : qC ceC 96 ad cy X A D zs cX2_pairKind 1 RX2 wsX2_pairKind p s m args meth c (some .int) := ⟨B.exec, B.bytes, hml, findClass_of_methodNamed B.named, atoms_spec (ws := wsX2_pairKind) B.pre, hK, hD, B.returns, B.notSynchronized, hE⟩
  rw [show entryFrame m args 1 = entryFrame m ([.int a0] : List Value).toArray 1 by rw [ha]]
  refine q_entry (A := A) (Nat.le_of_ble_eq_true rfl) hP (lv := [(0, .int a0)]) rfl ?_
  unfold fX2_pairKind at h
  refine q_iload_n C dX2_pairKind_0 rfl 0 rfl ?_
  refine q_swc h (fun e1_33 h => ?_) (fun n1_33 h => ?_)
  · refine q_look C dX2_pairKind_1 (tgt := 39) (by decide) (off := 38) (by rw [e1_33]; decide) (by decide) ?_
    refine q_bipush C (v := 20) dX2_pairKind_39 (by decide) ?_
    exact q_iret C rfl dX2_pairKind_41 h
  refine q_swc h (fun e1_60 h => ?_) (fun n1_60 h => ?_)
  · refine q_look C dX2_pairKind_1 (tgt := 42) (by decide) (off := 41) (by rw [e1_60]; decide) (by decide) ?_
    refine q_bipush C (v := 22) dX2_pairKind_42 (by decide) ?_
    exact q_iret C rfl dX2_pairKind_44 h
  refine q_swc h (fun e1_61 h => ?_) (fun n1_61 h => ?_)
  · refine q_look C dX2_pairKind_1 (tgt := 36) (by decide) (off := 35) (by rw [e1_61]; decide) (by decide) ?_
    refine q_bipush C (v := 19) dX2_pairKind_36 (by decide) ?_
    exact q_iret C rfl dX2_pairKind_38 h
  refine q_look C dX2_pairKind_1 (tgt := 45) (by decide) (off := 44) ((lv_osw n1_33 (by decide)).trans ((lv_osw n1_60 (by decide)).trans ((lv_osw n1_61 (by decide)).trans rfl))) (by decide) ?_
  refine q_bipush C (v := 26) dX2_pairKind_45 (by decide) ?_
  exact q_iret C rfl dX2_pairKind_47 h
abbrev rmX2_signKind : Room := { frames := 0, cells := 0, slots := 0, locals := 0 }
theorem hyX2_signKind : yX2_signKind.cls ≠ "java/lang/invoke/MethodHandle" ∧ yX2_signKind.cls ≠ "java/lang/invoke/VarHandle" ∧ (parseMethodDescriptor yX2_signKind.desc).map (fun d => d.parameters.length) = some 1 := by decide +kernel
def fX2_signKind (σ : St) (a0 : Int32) : Option (Int32 × St) := if a0 = (40 : Int32) then (some ((23 : Int32), σ)) else (if a0 = (41 : Int32) then (some ((24 : Int32), σ)) else (if a0 = (42 : Int32) then (some ((18 : Int32), σ)) else (if a0 = (43 : Int32) then (some ((16 : Int32), σ)) else (if a0 = (45 : Int32) then (some ((17 : Int32), σ)) else (if a0 = (59 : Int32) then (some ((15 : Int32), σ)) else (if a0 = (60 : Int32) then (some ((21 : Int32), σ)) else (some ((26 : Int32), σ))))))))
set_option maxHeartbeats 4000000 in
set_option maxRecDepth 100000 in
theorem kX2_signKind (l : Launch) (D : va_G) (ad : Nat → Nat) (cy : Nat → ClassId) (X : va_W) (A : Nat → Prop) (zs : Nat × Nat × Option Nat) (σ : St) (a0 : Int32) (r0 : Int32) (σ0 : St) (h : fX2_signKind σ a0 = some (r0, σ0)) : Met l yX2_signKind wsX2_signKind rmX2_signKind (qPc ceC 96 ad cy X A D zs [.int a0] σ) (qQi ceC 96 ad cy X A D r0 σ0) 0 0 A := by
  refine Met.ofW (cc := cX2_signKind) (maxL := 1) (ret := (some .int)) (by decide) rfl ?_
  intro p e s m args below meth c s₁ B hml hv
  obtain ⟨ha, hP, hK, hE, hD⟩ := hv
  have C : qC ceC 96 ad cy X A D zs cX2_signKind 1 RX2 wsX2_signKind p s m args meth c (some .int) := ⟨B.exec, B.bytes, hml, findClass_of_methodNamed B.named, atoms_spec (ws := wsX2_signKind) B.pre, hK, hD, B.returns, B.notSynchronized, hE⟩
  rw [show entryFrame m args 1 = entryFrame m ([.int a0] : List Value).toArray 1 by rw [ha]]
  refine q_entry (A := A) (Nat.le_of_ble_eq_true rfl) hP (lv := [(0, .int a0)]) rfl ?_
  unfold fX2_signKind at h
  refine q_iload_n C dX2_signKind_0 rfl 0 rfl ?_
  refine q_swc h (fun e1_40 h => ?_) (fun n1_40 h => ?_)
  · refine q_tabIn C dX2_signKind_1 (z := 40) (tgt := 115) (by rw [e1_40]; decide) (by decide) (by decide) rfl (by decide) ?_
    refine q_bipush C (v := 23) dX2_signKind_115 (by decide) ?_
    exact q_iret C rfl dX2_signKind_117 h
  refine q_swc h (fun e1_41 h => ?_) (fun n1_41 h => ?_)
  · refine q_tabIn C dX2_signKind_1 (z := 41) (tgt := 118) (by rw [e1_41]; decide) (by decide) (by decide) rfl (by decide) ?_
    refine q_bipush C (v := 24) dX2_signKind_118 (by decide) ?_
    exact q_iret C rfl dX2_signKind_120 h
  refine q_swc h (fun e1_42 h => ?_) (fun n1_42 h => ?_)
  · refine q_tabIn C dX2_signKind_1 (z := 42) (tgt := 109) (by rw [e1_42]; decide) (by decide) (by decide) rfl (by decide) ?_
    refine q_bipush C (v := 18) dX2_signKind_109 (by decide) ?_
    exact q_iret C rfl dX2_signKind_111 h
  refine q_swc h (fun e1_43 h => ?_) (fun n1_43 h => ?_)
  · refine q_tabIn C dX2_signKind_1 (z := 43) (tgt := 103) (by rw [e1_43]; decide) (by decide) (by decide) rfl (by decide) ?_
    refine q_bipush C (v := 16) dX2_signKind_103 (by decide) ?_
    exact q_iret C rfl dX2_signKind_105 h
  refine q_swc h (fun e1_45 h => ?_) (fun n1_45 h => ?_)
  · refine q_tabIn C dX2_signKind_1 (z := 45) (tgt := 106) (by rw [e1_45]; decide) (by decide) (by decide) rfl (by decide) ?_
    refine q_bipush C (v := 17) dX2_signKind_106 (by decide) ?_
    exact q_iret C rfl dX2_signKind_108 h
  refine q_swc h (fun e1_59 h => ?_) (fun n1_59 h => ?_)
  · refine q_tabIn C dX2_signKind_1 (z := 59) (tgt := 100) (by rw [e1_59]; decide) (by decide) (by decide) rfl (by decide) ?_
    refine q_bipush C (v := 15) dX2_signKind_100 (by decide) ?_
    exact q_iret C rfl dX2_signKind_102 h
  refine q_swc h (fun e1_60 h => ?_) (fun n1_60 h => ?_)
  · refine q_tabIn C dX2_signKind_1 (z := 60) (tgt := 112) (by rw [e1_60]; decide) (by decide) (by decide) rfl (by decide) ?_
    refine q_bipush C (v := 21) dX2_signKind_112 (by decide) ?_
    exact q_iret C rfl dX2_signKind_114 h
  have hdf1 : qVi ceC 96 ad cy X A D p l e (headSpec wsX2_signKind rmX2_signKind).room s m args below meth c 1 r0 σ0 121 [(0, .int a0)] [] σ := by
    refine q_bipush C (v := 26) dX2_signKind_121 (by decide) ?_
    exact q_iret C rfl dX2_signKind_123 h
  have zn1_40 := q_neI (z := 40) n1_40 (by decide)
  have zn1_41 := q_neI (z := 41) n1_41 (by decide)
  have zn1_42 := q_neI (z := 42) n1_42 (by decide)
  have zn1_43 := q_neI (z := 43) n1_43 (by decide)
  have zn1_45 := q_neI (z := 45) n1_45 (by decide)
  have zn1_59 := q_neI (z := 59) n1_59 (by decide)
  have zn1_60 := q_neI (z := 60) n1_60 (by decide)
  rcases (show (a0).toInt < 40 ∨ 60 < (a0).toInt ∨ (a0).toInt = 44 ∨ (a0).toInt = 46 ∨ (a0).toInt = 47 ∨ (a0).toInt = 48 ∨ (a0).toInt = 49 ∨ (a0).toInt = 50 ∨ (a0).toInt = 51 ∨ (a0).toInt = 52 ∨ (a0).toInt = 53 ∨ (a0).toInt = 54 ∨ (a0).toInt = 55 ∨ (a0).toInt = 56 ∨ (a0).toInt = 57 ∨ (a0).toInt = 58 by omega) with q | q | q | q | q | q | q | q | q | q | q | q | q | q | q | q
  · exact q_tabOut C dX2_signKind_1 (tgt := 121) (Or.inl q) (by decide) hdf1
  · exact q_tabOut C dX2_signKind_1 (tgt := 121) (Or.inr q) (by decide) hdf1
  · exact q_tabIn C dX2_signKind_1 (z := 44) (tgt := 121) q (by decide) (by decide) rfl (by decide) hdf1
  · exact q_tabIn C dX2_signKind_1 (z := 46) (tgt := 121) q (by decide) (by decide) rfl (by decide) hdf1
  · exact q_tabIn C dX2_signKind_1 (z := 47) (tgt := 121) q (by decide) (by decide) rfl (by decide) hdf1
  · exact q_tabIn C dX2_signKind_1 (z := 48) (tgt := 121) q (by decide) (by decide) rfl (by decide) hdf1
  · exact q_tabIn C dX2_signKind_1 (z := 49) (tgt := 121) q (by decide) (by decide) rfl (by decide) hdf1
  · exact q_tabIn C dX2_signKind_1 (z := 50) (tgt := 121) q (by decide) (by decide) rfl (by decide) hdf1
  · exact q_tabIn C dX2_signKind_1 (z := 51) (tgt := 121) q (by decide) (by decide) rfl (by decide) hdf1
  · exact q_tabIn C dX2_signKind_1 (z := 52) (tgt := 121) q (by decide) (by decide) rfl (by decide) hdf1
  · exact q_tabIn C dX2_signKind_1 (z := 53) (tgt := 121) q (by decide) (by decide) rfl (by decide) hdf1
  · exact q_tabIn C dX2_signKind_1 (z := 54) (tgt := 121) q (by decide) (by decide) rfl (by decide) hdf1
  · exact q_tabIn C dX2_signKind_1 (z := 55) (tgt := 121) q (by decide) (by decide) rfl (by decide) hdf1
  · exact q_tabIn C dX2_signKind_1 (z := 56) (tgt := 121) q (by decide) (by decide) rfl (by decide) hdf1
  · exact q_tabIn C dX2_signKind_1 (z := 57) (tgt := 121) q (by decide) (by decide) rfl (by decide) hdf1
  · exact q_tabIn C dX2_signKind_1 (z := 58) (tgt := 121) q (by decide) (by decide) rfl (by decide) hdf1
abbrev rmX2_scanSign : Room := { frames := 1, cells := 0, slots := 0, locals := 20 }
theorem hyX2_scanSign : yX2_scanSign.cls = RX2 ∧ yX2_scanSign.cls ≠ "java/lang/invoke/MethodHandle" ∧ yX2_scanSign.cls ≠ "java/lang/invoke/VarHandle" ∧ (parseMethodDescriptor yX2_scanSign.desc).map (fun d => d.parameters.length) = some 0 := by decide +kernel
theorem nX2_scanSign_X2 : ∀ w ∈ u_ws RX2 TX2 10, w ∈ wsX2_scanSign := by decide +kernel
theorem hX2_scanSign_22 : Cond.fieldLink RX2 22 (TX2 4).1 (TX2 4).2.1 (TX2 4).2.2.1 ∈ wsX2_scanSign := by decide +kernel
theorem hX2_scanSign_19 : Cond.fieldLink RX2 19 (TX2 3).1 (TX2 3).2.1 (TX2 3).2.2.1 ∈ wsX2_scanSign := by decide +kernel
theorem hX2_scanSign_41 : Cond.fieldLink RX2 41 (TX2 2).1 (TX2 2).2.1 (TX2 2).2.2.1 ∈ wsX2_scanSign := by decide +kernel
theorem hX2_scanSign_25 : Cond.fieldLink RX2 25 (TX2 5).1 (TX2 5).2.1 (TX2 5).2.2.1 ∈ wsX2_scanSign := by decide +kernel
def fX2_scanSign (σ : St) : Option (Int32 × St) := qlet (fun (y34 : Int32) => (qlet (fun (y57 : Int32 × St) => (qlet (sI y57.2 34 5 y57.1) (fun σ57 => if (σ57.1 34 5) = (26 : Int32) then (qix (σ57.1 34 4) 2000 (qcall (fX2_signKind σ57 (σ57.1 1 (σ57.1 34 4).toNatClampNeg)) (fun r90 σ90 => qlet (sI σ90 34 5 r90) (fun σ93 => qlet (sI σ93 34 4 ((σ93.1 34 4) + (1 : Int32))) (fun σ103 => some ((0 : Int32), σ103)))))) else (qlet (sI σ57 34 4 ((σ57.1 34 4) + (2 : Int32))) (fun σ76 => some ((0 : Int32), σ76)))))) (fun j57 => (if y34 = (0 : Int32) then (j57 ((26 : Int32), σ)) else (qix (σ.1 34 4) 2000 (qcall (fX2_pairKind σ (σ.1 1 (σ.1 34 4).toNatClampNeg)) (fun r49 σ49 => j57 (r49, σ49)))))))) (fun j34 => (qlet (fun (y33 : Unit) => (j34 (0 : Int32))) (fun j33 => (if (σ.1 34 3) ≤ ((σ.1 34 4) + (1 : Int32)) then (j33 ()) else (qix ((σ.1 34 4) + (1 : Int32)) 2000 (if (σ.1 1 ((σ.1 34 4) + (1 : Int32)).toNatClampNeg) = (61 : Int32) then (j34 (1 : Int32)) else (j33 ())))))))
set_option maxHeartbeats 4000000 in
set_option maxRecDepth 100000 in
theorem kX2_scanSign (l : Launch) (D : va_G) (ad : Nat → Nat) (cy : Nat → ClassId) (X : va_W) (A : Nat → Prop) (zs : Nat × Nat × Option Nat) (σ : St) (r0 : Int32) (σ0 : St) (h : fX2_scanSign σ = some (r0, σ0)) : Met l yX2_scanSign wsX2_scanSign rmX2_scanSign (qPc ceC 96 ad cy X A D zs [.ref (ad 34)] σ) (qQv ceC 96 ad cy X A D σ0) 0 0 A := by
  refine Met.ofW (cc := cX2_scanSign) (maxL := 2) (ret := none) (by decide) rfl ?_
  intro p e s m args below meth c s₁ B hml hv
  obtain ⟨ha, hP, hK, hE, hD⟩ := hv
  have C : qC ceC 96 ad cy X A D zs cX2_scanSign 2 RX2 wsX2_scanSign p s m args meth c none := ⟨B.exec, B.bytes, hml, findClass_of_methodNamed B.named, atoms_spec (ws := wsX2_scanSign) B.pre, hK, hD, B.returns, B.notSynchronized, hE⟩
  rw [show entryFrame m args 2 = entryFrame m ([.ref (ad 34)] : List Value).toArray 2 by rw [ha]]
  refine q_entry (A := A) (Nat.le_of_ble_eq_true rfl) hP (lv := [(0, .ref (ad 34))]) rfl ?_
  unfold fX2_scanSign at h
  refine q_aload_n C dX2_scanSign_0 rfl 0 rfl ?_
  refine q_get C (Cn := RX2) (T := TX2) (Nf := 10) (ci := 2) (id := 34) (k := 4) (v := .int (σ.1 34 4)) nX2_scanSign_X2 (by decide) (ceC_34 ad cy _ _ _) rfl (by decide) rfl hX2_scanSign_22 dX2_scanSign_1 ?_
  refine q_iconst C (v := 1) dX2_scanSign_4 (by decide) ?_
  refine q_iadd C dX2_scanSign_5 ?_
  refine q_aload_n C dX2_scanSign_6 rfl 0 rfl ?_
  refine q_get C (Cn := RX2) (T := TX2) (Nf := 10) (ci := 2) (id := 34) (k := 3) (v := .int (σ.1 34 3)) nX2_scanSign_X2 (by decide) (ceC_34 ad cy _ _ _) rfl (by decide) rfl hX2_scanSign_19 dX2_scanSign_7 ?_
  refine q_join (G := fun (y34 : Int32) => qVv ceC 96 ad cy X A D p l e (headSpec wsX2_scanSign rmX2_scanSign).room s m args below meth c 2 r0 σ0 34 [(0, .ref (ad 34))] [.int y34] σ) h (fun y34 h => ?_) (fun j34 hj34 h => ?_)
  · refine q_istore_n C dX2_scanSign_34 rfl (by decide) (lv' := [(0, .ref (ad 34)), (1, .int y34)]) rfl ?_
    refine q_aload_n C dX2_scanSign_35 rfl 0 rfl ?_
    refine q_iload_n C dX2_scanSign_36 rfl 1 rfl ?_
    refine q_join (G := fun (y57 : Int32 × St) => qVv ceC 96 ad cy X A D p l e (headSpec wsX2_scanSign rmX2_scanSign).room s m args below meth c 2 r0 σ0 57 [(0, .ref (ad 34))] [.int y57.1, .ref (ad 34)] y57.2) h (fun y57 h => ?_) (fun j57 hj57 h => ?_)
    · refine q_put C (Cn := RX2) (T := TX2) (ty0 := tyX2) (Nf := 10) (ci := 2) (id := 34) (k := 5) (y := 0) tyX2_ok nmX2 nX2_scanSign_X2 (by decide) (ceC_34 ad cy _ _ _) (ceC_34 ad cy _ _ _) rfl (by decide) rfl (by decide +kernel) (Nat.le_of_ble_eq_true rfl) hX2_scanSign_25 dX2_scanSign_57 h (fun σ57 h => ?_)
      refine q_aload_n C dX2_scanSign_60 rfl 0 rfl ?_
      refine q_get C (Cn := RX2) (T := TX2) (Nf := 10) (ci := 2) (id := 34) (k := 5) (v := .int (σ57.1 34 5)) nX2_scanSign_X2 (by decide) (ceC_34 ad cy _ _ _) rfl (by decide) rfl hX2_scanSign_25 dX2_scanSign_61 ?_
      refine q_bipush C (v := 26) dX2_scanSign_64 (by decide) ?_
      refine q_icmp_eq C (tgt := 80) dX2_scanSign_66 (by decide) h (fun h => ?_) (fun h => ?_)
      · refine q_aload_n C dX2_scanSign_80 rfl 0 rfl ?_
        refine q_aload_n C dX2_scanSign_81 rfl 0 rfl ?_
        refine q_get C (Cn := RX2) (T := TX2) (Nf := 10) (ci := 2) (id := 34) (k := 2) (v := .ref (ad 1)) nX2_scanSign_X2 (by decide) (ceC_34 ad cy _ _ _) rfl (by decide) rfl hX2_scanSign_41 dX2_scanSign_82 ?_
        refine q_aload_n C dX2_scanSign_85 rfl 0 rfl ?_
        refine q_get C (Cn := RX2) (T := TX2) (Nf := 10) (ci := 2) (id := 34) (k := 4) (v := .int (σ57.1 34 4)) nX2_scanSign_X2 (by decide) (ceC_34 ad cy _ _ _) rfl (by decide) rfl hX2_scanSign_22 dX2_scanSign_86 ?_
        refine q_bald C (id := 1) (by decide) (ceC_1 ad cy _ _ _) dX2_scanSign_89 h (fun h => ?_)
        refine q_callSi C (rm := rmX2_signKind) (As := [.int (σ57.1 1 (σ57.1 34 4).toNatClampNeg)]) (rest := [.ref (ad 34)]) (fun r9 σ9 h9 => kX2_signKind l D ad cy X A zs σ57 (σ57.1 1 (σ57.1 34 4).toNatClampNeg) r9 σ9 h9) gX2_scanSign_X2_signKind rfl rfl rfl hyX2_signKind ⟨Nat.le_of_ble_eq_true rfl, Nat.le_of_ble_eq_true rfl⟩ rfl rfl (Nat.le_of_ble_eq_true rfl) dX2_scanSign_90 ⟨Nat.zero_le _, Nat.zero_le _⟩ h (fun r90 σ90 h => ?_)
        refine q_put C (Cn := RX2) (T := TX2) (ty0 := tyX2) (Nf := 10) (ci := 2) (id := 34) (k := 5) (y := 0) tyX2_ok nmX2 nX2_scanSign_X2 (by decide) (ceC_34 ad cy _ _ _) (ceC_34 ad cy _ _ _) rfl (by decide) rfl (by decide +kernel) (Nat.le_of_ble_eq_true rfl) hX2_scanSign_25 dX2_scanSign_93 h (fun σ93 h => ?_)
        refine q_aload_n C dX2_scanSign_96 rfl 0 rfl ?_
        refine q_dup C dX2_scanSign_97 rfl ?_
        refine q_get C (Cn := RX2) (T := TX2) (Nf := 10) (ci := 2) (id := 34) (k := 4) (v := .int (σ93.1 34 4)) nX2_scanSign_X2 (by decide) (ceC_34 ad cy _ _ _) rfl (by decide) rfl hX2_scanSign_22 dX2_scanSign_98 ?_
        refine q_iconst C (v := 1) dX2_scanSign_101 (by decide) ?_
        refine q_iadd C dX2_scanSign_102 ?_
        refine q_put C (Cn := RX2) (T := TX2) (ty0 := tyX2) (Nf := 10) (ci := 2) (id := 34) (k := 4) (y := 0) tyX2_ok nmX2 nX2_scanSign_X2 (by decide) (ceC_34 ad cy _ _ _) (ceC_34 ad cy _ _ _) rfl (by decide) rfl (by decide +kernel) (Nat.le_of_ble_eq_true rfl) hX2_scanSign_22 dX2_scanSign_103 h (fun σ103 h => ?_)
        exact q_vret C (r0 := r0) rfl dX2_scanSign_106 h
      · refine q_aload_n C dX2_scanSign_69 rfl 0 rfl ?_
        refine q_dup C dX2_scanSign_70 rfl ?_
        refine q_get C (Cn := RX2) (T := TX2) (Nf := 10) (ci := 2) (id := 34) (k := 4) (v := .int (σ57.1 34 4)) nX2_scanSign_X2 (by decide) (ceC_34 ad cy _ _ _) rfl (by decide) rfl hX2_scanSign_22 dX2_scanSign_71 ?_
        refine q_iconst C (v := 2) dX2_scanSign_74 (by decide) ?_
        refine q_iadd C dX2_scanSign_75 ?_
        refine q_put C (Cn := RX2) (T := TX2) (ty0 := tyX2) (Nf := 10) (ci := 2) (id := 34) (k := 4) (y := 0) tyX2_ok nmX2 nX2_scanSign_X2 (by decide) (ceC_34 ad cy _ _ _) (ceC_34 ad cy _ _ _) rfl (by decide) rfl (by decide +kernel) (Nat.le_of_ble_eq_true rfl) hX2_scanSign_22 dX2_scanSign_76 h (fun σ76 h => ?_)
        exact q_vret C (r0 := r0) rfl dX2_scanSign_79 h
    refine q_if_eq C (tgt := 55) dX2_scanSign_37 (by decide) h (fun h => ?_) (fun h => ?_)
    · refine q_bipush C (v := 26) dX2_scanSign_55 (by decide) ?_
      exact q_sub [0] rfl (hj57 ((26 : Int32), σ) h)
    · refine q_aload_n C dX2_scanSign_40 rfl 0 rfl ?_
      refine q_get C (Cn := RX2) (T := TX2) (Nf := 10) (ci := 2) (id := 34) (k := 2) (v := .ref (ad 1)) nX2_scanSign_X2 (by decide) (ceC_34 ad cy _ _ _) rfl (by decide) rfl hX2_scanSign_41 dX2_scanSign_41 ?_
      refine q_aload_n C dX2_scanSign_44 rfl 0 rfl ?_
      refine q_get C (Cn := RX2) (T := TX2) (Nf := 10) (ci := 2) (id := 34) (k := 4) (v := .int (σ.1 34 4)) nX2_scanSign_X2 (by decide) (ceC_34 ad cy _ _ _) rfl (by decide) rfl hX2_scanSign_22 dX2_scanSign_45 ?_
      refine q_bald C (id := 1) (by decide) (ceC_1 ad cy _ _ _) dX2_scanSign_48 h (fun h => ?_)
      refine q_callSi C (rm := rmX2_pairKind) (As := [.int (σ.1 1 (σ.1 34 4).toNatClampNeg)]) (rest := [.ref (ad 34)]) (fun r9 σ9 h9 => kX2_pairKind l D ad cy X A zs σ (σ.1 1 (σ.1 34 4).toNatClampNeg) r9 σ9 h9) gX2_scanSign_X2_pairKind rfl rfl rfl hyX2_pairKind ⟨Nat.le_of_ble_eq_true rfl, Nat.le_of_ble_eq_true rfl⟩ rfl rfl (Nat.le_of_ble_eq_true rfl) dX2_scanSign_49 ⟨Nat.zero_le _, Nat.zero_le _⟩ h (fun r49 σ49 h => ?_)
      refine q_goto C (tgt := 57) dX2_scanSign_52 (by decide) ?_
      exact q_sub [0] rfl (hj57 (r49, σ49) h)
  refine q_join (G := fun (y33 : Unit) => qVv ceC 96 ad cy X A D p l e (headSpec wsX2_scanSign rmX2_scanSign).room s m args below meth c 2 r0 σ0 33 [(0, .ref (ad 34))] [] σ) h (fun y33 h => ?_) (fun j33 hj33 h => ?_)
  · refine q_iconst C (v := 0) dX2_scanSign_33 (by decide) ?_
    exact q_sub [0] rfl (hj34 (0 : Int32) h)
  refine q_icmp_ge C (tgt := 33) dX2_scanSign_10 (by decide) h (fun h => ?_) (fun h => ?_)
  · exact q_sub [0] rfl (hj33 () h)
  · refine q_aload_n C dX2_scanSign_13 rfl 0 rfl ?_
    refine q_get C (Cn := RX2) (T := TX2) (Nf := 10) (ci := 2) (id := 34) (k := 2) (v := .ref (ad 1)) nX2_scanSign_X2 (by decide) (ceC_34 ad cy _ _ _) rfl (by decide) rfl hX2_scanSign_41 dX2_scanSign_14 ?_
    refine q_aload_n C dX2_scanSign_17 rfl 0 rfl ?_
    refine q_get C (Cn := RX2) (T := TX2) (Nf := 10) (ci := 2) (id := 34) (k := 4) (v := .int (σ.1 34 4)) nX2_scanSign_X2 (by decide) (ceC_34 ad cy _ _ _) rfl (by decide) rfl hX2_scanSign_22 dX2_scanSign_18 ?_
    refine q_iconst C (v := 1) dX2_scanSign_21 (by decide) ?_
    refine q_iadd C dX2_scanSign_22 ?_
    refine q_bald C (id := 1) (by decide) (ceC_1 ad cy _ _ _) dX2_scanSign_23 h (fun h => ?_)
    refine q_bipush C (v := 61) dX2_scanSign_24 (by decide) ?_
    refine q_icmp_ne C (tgt := 33) dX2_scanSign_26 (by decide) h (fun h => ?_) (fun h => ?_)
    · exact q_sub [0] rfl (hj33 () h)
    · refine q_iconst C (v := 1) dX2_scanSign_29 (by decide) ?_
      refine q_goto C (tgt := 34) dX2_scanSign_30 (by decide) ?_
      exact q_sub [0] rfl (hj34 (1 : Int32) h)
abbrev rmX2_scanToken : Room := { frames := 6, cells := 0, slots := 0, locals := 130 }
theorem hyX2_scanToken : yX2_scanToken.cls = RX2 ∧ yX2_scanToken.cls ≠ "java/lang/invoke/MethodHandle" ∧ yX2_scanToken.cls ≠ "java/lang/invoke/VarHandle" ∧ (parseMethodDescriptor yX2_scanToken.desc).map (fun d => d.parameters.length) = some 0 := by decide +kernel
theorem nX2_scanToken_X2 : ∀ w ∈ u_ws RX2 TX2 10, w ∈ wsX2_scanToken := fun w h => List.mem_cons_of_mem _ (List.mem_append_right _ h)
theorem hX2_scanToken_22 : Cond.fieldLink RX2 22 (TX2 4).1 (TX2 4).2.1 (TX2 4).2.2.1 ∈ wsX2_scanToken := by decide +kernel
theorem hX2_scanToken_19 : Cond.fieldLink RX2 19 (TX2 3).1 (TX2 3).2.1 (TX2 3).2.2.1 ∈ wsX2_scanToken := by decide +kernel
theorem hX2_scanToken_41 : Cond.fieldLink RX2 41 (TX2 2).1 (TX2 2).2.1 (TX2 2).2.2.1 ∈ wsX2_scanToken := by decide +kernel
theorem hX2_scanToken_38 : Cond.fieldLink RX2 38 (TX2 9).1 (TX2 9).2.1 (TX2 9).2.2.1 ∈ wsX2_scanToken := by decide +kernel
theorem hX2_scanToken_25 : Cond.fieldLink RX2 25 (TX2 5).1 (TX2 5).2.1 (TX2 5).2.2.1 ∈ wsX2_scanToken := by decide +kernel
def fX2_scanToken_L : Nat → St → Option (Int32 × St)
  | 0, _ => none
  | n + 1, σ => qlet (fun (y39 : St) => (qlet (sI y39 34 9 (y39.1 34 4)) (fun σ44 => qlet (fun (y115 : St) => (some ((0 : Int32), y115))) (fun j115 => (if (σ44.1 34 4) < (σ44.1 34 3) then (qix (σ44.1 34 4) 2000 (qcall (fX2_isLetter σ44 (σ44.1 1 (σ44.1 34 4).toNatClampNeg)) (fun r76 σ76 => if r76 = (0 : Int32) then (qix (σ76.1 34 4) 2000 (qcall (fX2_isDigit σ76 (σ76.1 1 (σ76.1 34 4).toNatClampNeg)) (fun r98 σ98 => if r98 = (0 : Int32) then (qcall (fX2_scanSign σ98) (fun _ σ112 => j115 σ112)) else (qcall (fX2_scanInt σ98) (fun _ σ105 => j115 σ105))))) else (qcall (fX2_scanWord σ76) (fun _ σ83 => j115 σ83))))) else (qlet (sI σ44 34 5 (25 : Int32)) (fun σ61 => j115 σ61))))))) (fun j39 => (if (σ.1 34 3) ≤ (σ.1 34 4) then (j39 σ) else (qix (σ.1 34 4) 2000 (qcall (fX2_isBlank σ (σ.1 1 (σ.1 34 4).toNatClampNeg)) (fun r20 σ20 => if r20 = (0 : Int32) then (j39 σ20) else (qlet (sI σ20 34 4 ((σ20.1 34 4) + (1 : Int32))) (fun σ33 => fX2_scanToken_L n σ33)))))))
def fX2_scanToken (σ : St) : Option (Int32 × St) := fX2_scanToken_L 100000 σ
set_option maxHeartbeats 4000000 in
set_option maxRecDepth 100000 in
theorem kX2_scanToken_L {ad : Nat → Nat} {cy : Nat → ClassId} {X : va_W} {A : Nat → Prop} {D : va_G} {zs : Nat × Nat × Option Nat} {p : Program} {l : Launch} {e : Env} {s : State} {m : MethodId} {args : Array Value} {below : List Frame} {meth : Method} {c : Code} (C : qC ceC 96 ad cy X A D zs cX2_scanToken 1 RX2 wsX2_scanToken p s m args meth c none) (r0 : Int32) (σ0 : St) (n : Nat) : (∀ (σ : St), fX2_scanToken_L n σ = some (r0, σ0) → qVv ceC 96 ad cy X A D p l e (headSpec wsX2_scanToken rmX2_scanToken).room s m args below meth c 1 r0 σ0 0 [(0, .ref (ad 34))] [] σ) := by
  induction n with
  | zero =>
    intro  σ h; cases h
  | succ n ih =>
    intro  σ h
    rw [fX2_scanToken_L] at h
    refine q_aload_n C dX2_scanToken_0 rfl 0 rfl ?_
    refine q_get C (Cn := RX2) (T := TX2) (Nf := 10) (ci := 2) (id := 34) (k := 4) (v := .int (σ.1 34 4)) nX2_scanToken_X2 (by decide) (ceC_34 ad cy _ _ _) rfl (by decide) rfl hX2_scanToken_22 dX2_scanToken_1 ?_
    refine q_aload_n C dX2_scanToken_4 rfl 0 rfl ?_
    refine q_get C (Cn := RX2) (T := TX2) (Nf := 10) (ci := 2) (id := 34) (k := 3) (v := .int (σ.1 34 3)) nX2_scanToken_X2 (by decide) (ceC_34 ad cy _ _ _) rfl (by decide) rfl hX2_scanToken_19 dX2_scanToken_5 ?_
    refine q_join (G := fun (y39 : St) => qVv ceC 96 ad cy X A D p l e (headSpec wsX2_scanToken rmX2_scanToken).room s m args below meth c 1 r0 σ0 39 [(0, .ref (ad 34))] [] y39) h (fun y39 h => ?_) (fun j39 hj39 h => ?_)
    · refine q_aload_n C dX2_scanToken_39 rfl 0 rfl ?_
      refine q_aload_n C dX2_scanToken_40 rfl 0 rfl ?_
      refine q_get C (Cn := RX2) (T := TX2) (Nf := 10) (ci := 2) (id := 34) (k := 4) (v := .int (y39.1 34 4)) nX2_scanToken_X2 (by decide) (ceC_34 ad cy _ _ _) rfl (by decide) rfl hX2_scanToken_22 dX2_scanToken_41 ?_
      refine q_put C (Cn := RX2) (T := TX2) (ty0 := tyX2) (Nf := 10) (ci := 2) (id := 34) (k := 9) (y := 0) tyX2_ok nmX2 nX2_scanToken_X2 (by decide) (ceC_34 ad cy _ _ _) (ceC_34 ad cy _ _ _) rfl (by decide) rfl (by decide +kernel) (Nat.le_of_ble_eq_true rfl) hX2_scanToken_38 dX2_scanToken_44 h (fun σ44 h => ?_)
      refine q_aload_n C dX2_scanToken_47 rfl 0 rfl ?_
      refine q_get C (Cn := RX2) (T := TX2) (Nf := 10) (ci := 2) (id := 34) (k := 4) (v := .int (σ44.1 34 4)) nX2_scanToken_X2 (by decide) (ceC_34 ad cy _ _ _) rfl (by decide) rfl hX2_scanToken_22 dX2_scanToken_48 ?_
      refine q_aload_n C dX2_scanToken_51 rfl 0 rfl ?_
      refine q_get C (Cn := RX2) (T := TX2) (Nf := 10) (ci := 2) (id := 34) (k := 3) (v := .int (σ44.1 34 3)) nX2_scanToken_X2 (by decide) (ceC_34 ad cy _ _ _) rfl (by decide) rfl hX2_scanToken_19 dX2_scanToken_52 ?_
      refine q_join (G := fun (y115 : St) => qVv ceC 96 ad cy X A D p l e (headSpec wsX2_scanToken rmX2_scanToken).room s m args below meth c 1 r0 σ0 115 [] [] y115) h (fun y115 h => ?_) (fun j115 hj115 h => ?_)
      · exact q_vret C (r0 := r0) rfl dX2_scanToken_115 h
      refine q_icmp_lt C (tgt := 67) dX2_scanToken_55 (by decide) h (fun h => ?_) (fun h => ?_)
      · refine q_aload_n C dX2_scanToken_67 rfl 0 rfl ?_
        refine q_get C (Cn := RX2) (T := TX2) (Nf := 10) (ci := 2) (id := 34) (k := 2) (v := .ref (ad 1)) nX2_scanToken_X2 (by decide) (ceC_34 ad cy _ _ _) rfl (by decide) rfl hX2_scanToken_41 dX2_scanToken_68 ?_
        refine q_aload_n C dX2_scanToken_71 rfl 0 rfl ?_
        refine q_get C (Cn := RX2) (T := TX2) (Nf := 10) (ci := 2) (id := 34) (k := 4) (v := .int (σ44.1 34 4)) nX2_scanToken_X2 (by decide) (ceC_34 ad cy _ _ _) rfl (by decide) rfl hX2_scanToken_22 dX2_scanToken_72 ?_
        refine q_bald C (id := 1) (by decide) (ceC_1 ad cy _ _ _) dX2_scanToken_75 h (fun h => ?_)
        refine q_callSi C (rm := rmX2_isLetter) (As := [.int (σ44.1 1 (σ44.1 34 4).toNatClampNeg)]) (rest := []) (fun r9 σ9 h9 => kX2_isLetter l D ad cy X A zs σ44 (σ44.1 1 (σ44.1 34 4).toNatClampNeg) r9 σ9 h9) gX2_scanToken_X2_isLetter rfl rfl rfl hyX2_isLetter ⟨Nat.le_of_ble_eq_true rfl, Nat.le_of_ble_eq_true rfl⟩ rfl rfl (Nat.le_of_ble_eq_true rfl) dX2_scanToken_76 ⟨Nat.zero_le _, Nat.zero_le _⟩ h (fun r76 σ76 h => ?_)
        refine q_if_eq C (tgt := 89) dX2_scanToken_79 (by decide) h (fun h => ?_) (fun h => ?_)
        · refine q_aload_n C dX2_scanToken_89 rfl 0 rfl ?_
          refine q_get C (Cn := RX2) (T := TX2) (Nf := 10) (ci := 2) (id := 34) (k := 2) (v := .ref (ad 1)) nX2_scanToken_X2 (by decide) (ceC_34 ad cy _ _ _) rfl (by decide) rfl hX2_scanToken_41 dX2_scanToken_90 ?_
          refine q_aload_n C dX2_scanToken_93 rfl 0 rfl ?_
          refine q_get C (Cn := RX2) (T := TX2) (Nf := 10) (ci := 2) (id := 34) (k := 4) (v := .int (σ76.1 34 4)) nX2_scanToken_X2 (by decide) (ceC_34 ad cy _ _ _) rfl (by decide) rfl hX2_scanToken_22 dX2_scanToken_94 ?_
          refine q_bald C (id := 1) (by decide) (ceC_1 ad cy _ _ _) dX2_scanToken_97 h (fun h => ?_)
          refine q_callSi C (rm := rmX2_isDigit) (As := [.int (σ76.1 1 (σ76.1 34 4).toNatClampNeg)]) (rest := []) (fun r9 σ9 h9 => kX2_isDigit l D ad cy X A zs σ76 (σ76.1 1 (σ76.1 34 4).toNatClampNeg) r9 σ9 h9) gX2_scanToken_X2_isDigit rfl rfl rfl hyX2_isDigit ⟨Nat.le_of_ble_eq_true rfl, Nat.le_of_ble_eq_true rfl⟩ rfl rfl (Nat.le_of_ble_eq_true rfl) dX2_scanToken_98 ⟨Nat.zero_le _, Nat.zero_le _⟩ h (fun r98 σ98 h => ?_)
          refine q_if_eq C (tgt := 111) dX2_scanToken_101 (by decide) h (fun h => ?_) (fun h => ?_)
          · refine q_aload_n C dX2_scanToken_111 rfl 0 rfl ?_
            refine q_callVv C (rm := rmX2_scanSign) (As := []) (rest := []) (id := 34) (ci := 2) (fun r9 σ9 h9 => kX2_scanSign l D ad cy X A zs σ98 r9 σ9 h9) gX2_scanToken_X2_scanSign rfl rfl rfl hyX2_scanSign ⟨Nat.le_of_ble_eq_true rfl, Nat.le_of_ble_eq_true rfl⟩ (by decide) (ceC_34 ad cy _ _ _) rfl rfl rfl (Nat.le_of_ble_eq_true rfl) dX2_scanToken_112 ⟨Nat.zero_le _, Nat.zero_le _⟩ h (fun r112 σ112 h => ?_)
            exact q_sub [] rfl (hj115 σ112 h)
          · refine q_aload_n C dX2_scanToken_104 rfl 0 rfl ?_
            refine q_callVv C (rm := rmX2_scanInt) (As := []) (rest := []) (id := 34) (ci := 2) (fun r9 σ9 h9 => kX2_scanInt l D ad cy X A zs σ98 r9 σ9 h9) gX2_scanToken_X2_scanInt rfl rfl rfl hyX2_scanInt ⟨Nat.le_of_ble_eq_true rfl, Nat.le_of_ble_eq_true rfl⟩ (by decide) (ceC_34 ad cy _ _ _) rfl rfl rfl (Nat.le_of_ble_eq_true rfl) dX2_scanToken_105 ⟨Nat.zero_le _, Nat.zero_le _⟩ h (fun r105 σ105 h => ?_)
            refine q_goto C (tgt := 115) dX2_scanToken_108 (by decide) ?_
            exact q_sub [] rfl (hj115 σ105 h)
        · refine q_aload_n C dX2_scanToken_82 rfl 0 rfl ?_
          refine q_callVv C (rm := rmX2_scanWord) (As := []) (rest := []) (id := 34) (ci := 2) (fun r9 σ9 h9 => kX2_scanWord l D ad cy X A zs σ76 r9 σ9 h9) gX2_scanToken_X2_scanWord rfl rfl rfl hyX2_scanWord ⟨Nat.le_of_ble_eq_true rfl, Nat.le_of_ble_eq_true rfl⟩ (by decide) (ceC_34 ad cy _ _ _) rfl rfl rfl (Nat.le_of_ble_eq_true rfl) dX2_scanToken_83 ⟨Nat.zero_le _, Nat.zero_le _⟩ h (fun r83 σ83 h => ?_)
          refine q_goto C (tgt := 115) dX2_scanToken_86 (by decide) ?_
          exact q_sub [] rfl (hj115 σ83 h)
      · refine q_aload_n C dX2_scanToken_58 rfl 0 rfl ?_
        refine q_bipush C (v := 25) dX2_scanToken_59 (by decide) ?_
        refine q_put C (Cn := RX2) (T := TX2) (ty0 := tyX2) (Nf := 10) (ci := 2) (id := 34) (k := 5) (y := 0) tyX2_ok nmX2 nX2_scanToken_X2 (by decide) (ceC_34 ad cy _ _ _) (ceC_34 ad cy _ _ _) rfl (by decide) rfl (by decide +kernel) (Nat.le_of_ble_eq_true rfl) hX2_scanToken_25 dX2_scanToken_61 h (fun σ61 h => ?_)
        refine q_goto C (tgt := 115) dX2_scanToken_64 (by decide) ?_
        exact q_sub [] rfl (hj115 σ61 h)
    refine q_icmp_ge C (tgt := 39) dX2_scanToken_8 (by decide) h (fun h => ?_) (fun h => ?_)
    · exact q_sub [0] rfl (hj39 σ h)
    · refine q_aload_n C dX2_scanToken_11 rfl 0 rfl ?_
      refine q_get C (Cn := RX2) (T := TX2) (Nf := 10) (ci := 2) (id := 34) (k := 2) (v := .ref (ad 1)) nX2_scanToken_X2 (by decide) (ceC_34 ad cy _ _ _) rfl (by decide) rfl hX2_scanToken_41 dX2_scanToken_12 ?_
      refine q_aload_n C dX2_scanToken_15 rfl 0 rfl ?_
      refine q_get C (Cn := RX2) (T := TX2) (Nf := 10) (ci := 2) (id := 34) (k := 4) (v := .int (σ.1 34 4)) nX2_scanToken_X2 (by decide) (ceC_34 ad cy _ _ _) rfl (by decide) rfl hX2_scanToken_22 dX2_scanToken_16 ?_
      refine q_bald C (id := 1) (by decide) (ceC_1 ad cy _ _ _) dX2_scanToken_19 h (fun h => ?_)
      refine q_callSi C (rm := rmX2_isBlank) (As := [.int (σ.1 1 (σ.1 34 4).toNatClampNeg)]) (rest := []) (fun r9 σ9 h9 => kX2_isBlank l D ad cy X A zs σ (σ.1 1 (σ.1 34 4).toNatClampNeg) r9 σ9 h9) gX2_scanToken_X2_isBlank rfl rfl rfl hyX2_isBlank ⟨Nat.le_of_ble_eq_true rfl, Nat.le_of_ble_eq_true rfl⟩ rfl rfl (Nat.le_of_ble_eq_true rfl) dX2_scanToken_20 ⟨Nat.zero_le _, Nat.zero_le _⟩ h (fun r20 σ20 h => ?_)
      refine q_if_eq C (tgt := 39) dX2_scanToken_23 (by decide) h (fun h => ?_) (fun h => ?_)
      · exact q_sub [0] rfl (hj39 σ20 h)
      · refine q_aload_n C dX2_scanToken_26 rfl 0 rfl ?_
        refine q_dup C dX2_scanToken_27 rfl ?_
        refine q_get C (Cn := RX2) (T := TX2) (Nf := 10) (ci := 2) (id := 34) (k := 4) (v := .int (σ20.1 34 4)) nX2_scanToken_X2 (by decide) (ceC_34 ad cy _ _ _) rfl (by decide) rfl hX2_scanToken_22 dX2_scanToken_28 ?_
        refine q_iconst C (v := 1) dX2_scanToken_31 (by decide) ?_
        refine q_iadd C dX2_scanToken_32 ?_
        refine q_put C (Cn := RX2) (T := TX2) (ty0 := tyX2) (Nf := 10) (ci := 2) (id := 34) (k := 4) (y := 0) tyX2_ok nmX2 nX2_scanToken_X2 (by decide) (ceC_34 ad cy _ _ _) (ceC_34 ad cy _ _ _) rfl (by decide) rfl (by decide +kernel) (Nat.le_of_ble_eq_true rfl) hX2_scanToken_22 dX2_scanToken_33 h (fun σ33 h => ?_)
        refine q_goto C (tgt := 0) dX2_scanToken_36 (by decide) ?_
        exact q_sub [0] rfl (ih σ33 h)
set_option maxHeartbeats 4000000 in
set_option maxRecDepth 100000 in
theorem kX2_scanToken (l : Launch) (D : va_G) (ad : Nat → Nat) (cy : Nat → ClassId) (X : va_W) (A : Nat → Prop) (zs : Nat × Nat × Option Nat) (σ : St) (r0 : Int32) (σ0 : St) (h : fX2_scanToken σ = some (r0, σ0)) : Met l yX2_scanToken wsX2_scanToken rmX2_scanToken (qPc ceC 96 ad cy X A D zs [.ref (ad 34)] σ) (qQv ceC 96 ad cy X A D σ0) 0 0 A := by
  refine Met.ofW (cc := cX2_scanToken) (maxL := 1) (ret := none) (by decide) rfl ?_
  intro p e s m args below meth c s₁ B hml hv
  obtain ⟨ha, hP, hK, hE, hD⟩ := hv
  have C : qC ceC 96 ad cy X A D zs cX2_scanToken 1 RX2 wsX2_scanToken p s m args meth c none := ⟨B.exec, B.bytes, hml, findClass_of_methodNamed B.named, atoms_spec (ws := wsX2_scanToken) B.pre, hK, hD, B.returns, B.notSynchronized, hE⟩
  rw [show entryFrame m args 1 = entryFrame m ([.ref (ad 34)] : List Value).toArray 1 by rw [ha]]
  refine q_entry (A := A) (Nat.le_of_ble_eq_true rfl) hP (lv := [(0, .ref (ad 34))]) rfl ?_
  unfold fX2_scanToken at h
  exact q_sub [0] rfl ((kX2_scanToken_L C r0 σ0 100000) σ h)
abbrev rmX2_isRuleWord : Room := { frames := 0, cells := 0, slots := 0, locals := 0 }
theorem hyX2_isRuleWord : yX2_isRuleWord.cls = RX2 ∧ yX2_isRuleWord.cls ≠ "java/lang/invoke/MethodHandle" ∧ yX2_isRuleWord.cls ≠ "java/lang/invoke/VarHandle" ∧ (parseMethodDescriptor yX2_isRuleWord.desc).map (fun d => d.parameters.length) = some 0 := by decide +kernel
theorem nX2_isRuleWord_X2 : ∀ w ∈ u_ws RX2 TX2 10, w ∈ wsX2_isRuleWord := fun w h => List.mem_cons_of_mem _ (List.mem_append_right _ h)
theorem hX2_isRuleWord_25 : Cond.fieldLink RX2 25 (TX2 5).1 (TX2 5).2.1 (TX2 5).2.2.1 ∈ wsX2_isRuleWord := by decide +kernel
def fX2_isRuleWord (σ : St) : Option (Int32 × St) := qlet (fun (y28 : Int32) => (qzz y28 (some (y28, σ)))) (fun j28 => (qlet (fun (y23 : Unit) => (j28 (1 : Int32))) (fun j23 => (if (σ.1 34 5) = (0 : Int32) then (j23 ()) else (if (σ.1 34 5) = (1 : Int32) then (j23 ()) else (if (σ.1 34 5) = (2 : Int32) then (j23 ()) else (j28 (0 : Int32))))))))
set_option maxHeartbeats 4000000 in
set_option maxRecDepth 100000 in
theorem kX2_isRuleWord (l : Launch) (D : va_G) (ad : Nat → Nat) (cy : Nat → ClassId) (X : va_W) (A : Nat → Prop) (zs : Nat × Nat × Option Nat) (σ : St) (r0 : Int32) (σ0 : St) (h : fX2_isRuleWord σ = some (r0, σ0)) : Met l yX2_isRuleWord wsX2_isRuleWord rmX2_isRuleWord (qPc ceC 96 ad cy X A D zs [.ref (ad 34)] σ) (qQi ceC 96 ad cy X A D r0 σ0) 0 0 A := by
  refine Met.ofW (cc := cX2_isRuleWord) (maxL := 1) (ret := (some .boolean)) (by decide) rfl ?_
  intro p e s m args below meth c s₁ B hml hv
  obtain ⟨ha, hP, hK, hE, hD⟩ := hv
  have C : qC ceC 96 ad cy X A D zs cX2_isRuleWord 1 RX2 wsX2_isRuleWord p s m args meth c (some .boolean) := ⟨B.exec, B.bytes, hml, findClass_of_methodNamed B.named, atoms_spec (ws := wsX2_isRuleWord) B.pre, hK, hD, B.returns, B.notSynchronized, hE⟩
  rw [show entryFrame m args 1 = entryFrame m ([.ref (ad 34)] : List Value).toArray 1 by rw [ha]]
  refine q_entry (A := A) (Nat.le_of_ble_eq_true rfl) hP (lv := [(0, .ref (ad 34))]) rfl ?_
  unfold fX2_isRuleWord at h
  refine q_aload_n C dX2_isRuleWord_0 rfl 0 rfl ?_
  refine q_get C (Cn := RX2) (T := TX2) (Nf := 10) (ci := 2) (id := 34) (k := 5) (v := .int (σ.1 34 5)) nX2_isRuleWord_X2 (by decide) (ceC_34 ad cy _ _ _) rfl (by decide) rfl hX2_isRuleWord_25 dX2_isRuleWord_1 ?_
  refine q_join (G := fun (y28 : Int32) => qVi ceC 96 ad cy X A D p l e (headSpec wsX2_isRuleWord rmX2_isRuleWord).room s m args below meth c 1 r0 σ0 28 [] [.int y28] σ) h (fun y28 h => ?_) (fun j28 hj28 h => ?_)
  · exact q_zret C rfl dX2_isRuleWord_28 h
  refine q_join (G := fun (y23 : Unit) => qVi ceC 96 ad cy X A D p l e (headSpec wsX2_isRuleWord rmX2_isRuleWord).room s m args below meth c 1 r0 σ0 23 [] [] σ) h (fun y23 h => ?_) (fun j23 hj23 h => ?_)
  · refine q_iconst C (v := 1) dX2_isRuleWord_23 (by decide) ?_
    refine q_goto C (tgt := 28) dX2_isRuleWord_24 (by decide) ?_
    exact q_sub [] rfl (hj28 (1 : Int32) h)
  refine q_if_eq C (tgt := 23) dX2_isRuleWord_4 (by decide) h (fun h => ?_) (fun h => ?_)
  · exact q_sub [] rfl (hj23 () h)
  · refine q_aload_n C dX2_isRuleWord_7 rfl 0 rfl ?_
    refine q_get C (Cn := RX2) (T := TX2) (Nf := 10) (ci := 2) (id := 34) (k := 5) (v := .int (σ.1 34 5)) nX2_isRuleWord_X2 (by decide) (ceC_34 ad cy _ _ _) rfl (by decide) rfl hX2_isRuleWord_25 dX2_isRuleWord_8 ?_
    refine q_iconst C (v := 1) dX2_isRuleWord_11 (by decide) ?_
    refine q_icmp_eq C (tgt := 23) dX2_isRuleWord_12 (by decide) h (fun h => ?_) (fun h => ?_)
    · exact q_sub [] rfl (hj23 () h)
    · refine q_aload_n C dX2_isRuleWord_15 rfl 0 rfl ?_
      refine q_get C (Cn := RX2) (T := TX2) (Nf := 10) (ci := 2) (id := 34) (k := 5) (v := .int (σ.1 34 5)) nX2_isRuleWord_X2 (by decide) (ceC_34 ad cy _ _ _) rfl (by decide) rfl hX2_isRuleWord_25 dX2_isRuleWord_16 ?_
      refine q_iconst C (v := 2) dX2_isRuleWord_19 (by decide) ?_
      refine q_icmp_ne C (tgt := 27) dX2_isRuleWord_20 (by decide) h (fun h => ?_) (fun h => ?_)
      · refine q_iconst C (v := 0) dX2_isRuleWord_27 (by decide) ?_
        exact q_sub [] rfl (hj28 (0 : Int32) h)
      · exact q_sub [] rfl (hj23 () h)
abbrev rmX2_isRelation : Room := { frames := 0, cells := 0, slots := 0, locals := 0 }
theorem hyX2_isRelation : yX2_isRelation.cls = RX2 ∧ yX2_isRelation.cls ≠ "java/lang/invoke/MethodHandle" ∧ yX2_isRelation.cls ≠ "java/lang/invoke/VarHandle" ∧ (parseMethodDescriptor yX2_isRelation.desc).map (fun d => d.parameters.length) = some 0 := by decide +kernel
theorem nX2_isRelation_X2 : ∀ w ∈ u_ws RX2 TX2 10, w ∈ wsX2_isRelation := fun w h => List.mem_cons_of_mem _ (List.mem_append_right _ h)
theorem hX2_isRelation_25 : Cond.fieldLink RX2 25 (TX2 5).1 (TX2 5).2.1 (TX2 5).2.2.1 ∈ wsX2_isRelation := by decide +kernel
def fX2_isRelation (σ : St) : Option (Int32 × St) := qlet (fun (y23 : Int32) => (qzz y23 (some (y23, σ)))) (fun j23 => (qlet (fun (y22 : Unit) => (j23 (0 : Int32))) (fun j22 => (if (σ.1 34 5) < (19 : Int32) then (j22 ()) else (if (22 : Int32) < (σ.1 34 5) then (j22 ()) else (j23 (1 : Int32)))))))
set_option maxHeartbeats 4000000 in
set_option maxRecDepth 100000 in
theorem kX2_isRelation (l : Launch) (D : va_G) (ad : Nat → Nat) (cy : Nat → ClassId) (X : va_W) (A : Nat → Prop) (zs : Nat × Nat × Option Nat) (σ : St) (r0 : Int32) (σ0 : St) (h : fX2_isRelation σ = some (r0, σ0)) : Met l yX2_isRelation wsX2_isRelation rmX2_isRelation (qPc ceC 96 ad cy X A D zs [.ref (ad 34)] σ) (qQi ceC 96 ad cy X A D r0 σ0) 0 0 A := by
  refine Met.ofW (cc := cX2_isRelation) (maxL := 1) (ret := (some .boolean)) (by decide) rfl ?_
  intro p e s m args below meth c s₁ B hml hv
  obtain ⟨ha, hP, hK, hE, hD⟩ := hv
  have C : qC ceC 96 ad cy X A D zs cX2_isRelation 1 RX2 wsX2_isRelation p s m args meth c (some .boolean) := ⟨B.exec, B.bytes, hml, findClass_of_methodNamed B.named, atoms_spec (ws := wsX2_isRelation) B.pre, hK, hD, B.returns, B.notSynchronized, hE⟩
  rw [show entryFrame m args 1 = entryFrame m ([.ref (ad 34)] : List Value).toArray 1 by rw [ha]]
  refine q_entry (A := A) (Nat.le_of_ble_eq_true rfl) hP (lv := [(0, .ref (ad 34))]) rfl ?_
  unfold fX2_isRelation at h
  refine q_aload_n C dX2_isRelation_0 rfl 0 rfl ?_
  refine q_get C (Cn := RX2) (T := TX2) (Nf := 10) (ci := 2) (id := 34) (k := 5) (v := .int (σ.1 34 5)) nX2_isRelation_X2 (by decide) (ceC_34 ad cy _ _ _) rfl (by decide) rfl hX2_isRelation_25 dX2_isRelation_1 ?_
  refine q_bipush C (v := 19) dX2_isRelation_4 (by decide) ?_
  refine q_join (G := fun (y23 : Int32) => qVi ceC 96 ad cy X A D p l e (headSpec wsX2_isRelation rmX2_isRelation).room s m args below meth c 1 r0 σ0 23 [] [.int y23] σ) h (fun y23 h => ?_) (fun j23 hj23 h => ?_)
  · exact q_zret C rfl dX2_isRelation_23 h
  refine q_join (G := fun (y22 : Unit) => qVi ceC 96 ad cy X A D p l e (headSpec wsX2_isRelation rmX2_isRelation).room s m args below meth c 1 r0 σ0 22 [] [] σ) h (fun y22 h => ?_) (fun j22 hj22 h => ?_)
  · refine q_iconst C (v := 0) dX2_isRelation_22 (by decide) ?_
    exact q_sub [] rfl (hj23 (0 : Int32) h)
  refine q_icmp_lt C (tgt := 22) dX2_isRelation_6 (by decide) h (fun h => ?_) (fun h => ?_)
  · exact q_sub [] rfl (hj22 () h)
  · refine q_aload_n C dX2_isRelation_9 rfl 0 rfl ?_
    refine q_get C (Cn := RX2) (T := TX2) (Nf := 10) (ci := 2) (id := 34) (k := 5) (v := .int (σ.1 34 5)) nX2_isRelation_X2 (by decide) (ceC_34 ad cy _ _ _) rfl (by decide) rfl hX2_isRelation_25 dX2_isRelation_10 ?_
    refine q_bipush C (v := 22) dX2_isRelation_13 (by decide) ?_
    refine q_icmp_gt C (tgt := 22) dX2_isRelation_15 (by decide) h (fun h => ?_) (fun h => ?_)
    · exact q_sub [] rfl (hj22 () h)
    · refine q_iconst C (v := 1) dX2_isRelation_18 (by decide) ?_
      refine q_goto C (tgt := 23) dX2_isRelation_19 (by decide) ?_
      exact q_sub [] rfl (hj23 (1 : Int32) h)
abbrev rmX2_stateBehindUnit : Room := { frames := 1, cells := 0, slots := 0, locals := 20 }
theorem hyX2_stateBehindUnit : yX2_stateBehindUnit.cls = RX2 ∧ yX2_stateBehindUnit.cls ≠ "java/lang/invoke/MethodHandle" ∧ yX2_stateBehindUnit.cls ≠ "java/lang/invoke/VarHandle" ∧ (parseMethodDescriptor yX2_stateBehindUnit.desc).map (fun d => d.parameters.length) = some 0 := by decide +kernel
theorem nX2_stateBehindUnit_X2 : ∀ w ∈ u_ws RX2 TX2 10, w ∈ wsX2_stateBehindUnit := fun w h => List.mem_cons_of_mem _ (List.mem_append_right _ h)
theorem hX2_stateBehindUnit_25 : Cond.fieldLink RX2 25 (TX2 5).1 (TX2 5).2.1 (TX2 5).2.2.1 ∈ wsX2_stateBehindUnit := by decide +kernel
theorem hX2_stateBehindUnit_31 : Cond.fieldLink RX2 31 (TX2 7).1 (TX2 7).2.1 (TX2 7).2.2.1 ∈ wsX2_stateBehindUnit := by decide +kernel
theorem hX2_stateBehindUnit_34 : Cond.fieldLink RX2 34 (TX2 8).1 (TX2 8).2.1 (TX2 8).2.2.1 ∈ wsX2_stateBehindUnit := by decide +kernel
def fX2_stateBehindUnit (σ : St) : Option (Int32 × St) := qlet (fun (y27 : Unit) => (some ((2 : Int32), σ))) (fun j27 => (if (σ.1 34 5) = (16 : Int32) then (j27 ()) else (if (σ.1 34 5) = (17 : Int32) then (j27 ()) else (if (σ.1 34 5) = (18 : Int32) then (j27 ()) else (if (σ.1 34 7) ≤ (0 : Int32) then (if (σ.1 34 8) = (0 : Int32) then (qcall (fX2_isRelation σ) (fun r59 σ59 => qlet (fun (y70 : Int32) => (some (y70, σ59))) (fun j70 => (if r59 = (0 : Int32) then (j70 (-1 : Int32)) else (j70 (2 : Int32)))))) else (if (σ.1 34 5) = (15 : Int32) then (some ((0 : Int32), σ)) else (qlet (fun (y103 : Int32) => (some (y103, σ))) (fun j103 => (qlet (fun (y98 : Unit) => (j103 (2 : Int32))) (fun j98 => (if (σ.1 34 5) = (5 : Int32) then (j98 ()) else (if (σ.1 34 5) = (4 : Int32) then (j98 ()) else (j103 (-1 : Int32)))))))))) else (qlet (fun (y50 : Int32) => (some (y50, σ))) (fun j50 => (if (σ.1 34 5) = (24 : Int32) then (j50 (3 : Int32)) else (j50 (-1 : Int32))))))))))
set_option maxHeartbeats 4000000 in
set_option maxRecDepth 100000 in
theorem kX2_stateBehindUnit (l : Launch) (D : va_G) (ad : Nat → Nat) (cy : Nat → ClassId) (X : va_W) (A : Nat → Prop) (zs : Nat × Nat × Option Nat) (σ : St) (r0 : Int32) (σ0 : St) (h : fX2_stateBehindUnit σ = some (r0, σ0)) : Met l yX2_stateBehindUnit wsX2_stateBehindUnit rmX2_stateBehindUnit (qPc ceC 96 ad cy X A D zs [.ref (ad 34)] σ) (qQi ceC 96 ad cy X A D r0 σ0) 0 0 A := by
  refine Met.ofW (cc := cX2_stateBehindUnit) (maxL := 1) (ret := (some .int)) (by decide) rfl ?_
  intro p e s m args below meth c s₁ B hml hv
  obtain ⟨ha, hP, hK, hE, hD⟩ := hv
  have C : qC ceC 96 ad cy X A D zs cX2_stateBehindUnit 1 RX2 wsX2_stateBehindUnit p s m args meth c (some .int) := ⟨B.exec, B.bytes, hml, findClass_of_methodNamed B.named, atoms_spec (ws := wsX2_stateBehindUnit) B.pre, hK, hD, B.returns, B.notSynchronized, hE⟩
  rw [show entryFrame m args 1 = entryFrame m ([.ref (ad 34)] : List Value).toArray 1 by rw [ha]]
  refine q_entry (A := A) (Nat.le_of_ble_eq_true rfl) hP (lv := [(0, .ref (ad 34))]) rfl ?_
  unfold fX2_stateBehindUnit at h
  refine q_aload_n C dX2_stateBehindUnit_0 rfl 0 rfl ?_
  refine q_get C (Cn := RX2) (T := TX2) (Nf := 10) (ci := 2) (id := 34) (k := 5) (v := .int (σ.1 34 5)) nX2_stateBehindUnit_X2 (by decide) (ceC_34 ad cy _ _ _) rfl (by decide) rfl hX2_stateBehindUnit_25 dX2_stateBehindUnit_1 ?_
  refine q_bipush C (v := 16) dX2_stateBehindUnit_4 (by decide) ?_
  refine q_join (G := fun (y27 : Unit) => qVi ceC 96 ad cy X A D p l e (headSpec wsX2_stateBehindUnit rmX2_stateBehindUnit).room s m args below meth c 1 r0 σ0 27 [] [] σ) h (fun y27 h => ?_) (fun j27 hj27 h => ?_)
  · refine q_iconst C (v := 2) dX2_stateBehindUnit_27 (by decide) ?_
    exact q_iret C rfl dX2_stateBehindUnit_28 h
  refine q_icmp_eq C (tgt := 27) dX2_stateBehindUnit_6 (by decide) h (fun h => ?_) (fun h => ?_)
  · exact q_sub [] rfl (hj27 () h)
  · refine q_aload_n C dX2_stateBehindUnit_9 rfl 0 rfl ?_
    refine q_get C (Cn := RX2) (T := TX2) (Nf := 10) (ci := 2) (id := 34) (k := 5) (v := .int (σ.1 34 5)) nX2_stateBehindUnit_X2 (by decide) (ceC_34 ad cy _ _ _) rfl (by decide) rfl hX2_stateBehindUnit_25 dX2_stateBehindUnit_10 ?_
    refine q_bipush C (v := 17) dX2_stateBehindUnit_13 (by decide) ?_
    refine q_icmp_eq C (tgt := 27) dX2_stateBehindUnit_15 (by decide) h (fun h => ?_) (fun h => ?_)
    · exact q_sub [] rfl (hj27 () h)
    · refine q_aload_n C dX2_stateBehindUnit_18 rfl 0 rfl ?_
      refine q_get C (Cn := RX2) (T := TX2) (Nf := 10) (ci := 2) (id := 34) (k := 5) (v := .int (σ.1 34 5)) nX2_stateBehindUnit_X2 (by decide) (ceC_34 ad cy _ _ _) rfl (by decide) rfl hX2_stateBehindUnit_25 dX2_stateBehindUnit_19 ?_
      refine q_bipush C (v := 18) dX2_stateBehindUnit_22 (by decide) ?_
      refine q_icmp_ne C (tgt := 29) dX2_stateBehindUnit_24 (by decide) h (fun h => ?_) (fun h => ?_)
      · refine q_aload_n C dX2_stateBehindUnit_29 rfl 0 rfl ?_
        refine q_get C (Cn := RX2) (T := TX2) (Nf := 10) (ci := 2) (id := 34) (k := 7) (v := .int (σ.1 34 7)) nX2_stateBehindUnit_X2 (by decide) (ceC_34 ad cy _ _ _) rfl (by decide) rfl hX2_stateBehindUnit_31 dX2_stateBehindUnit_30 ?_
        refine q_if_le C (tgt := 51) dX2_stateBehindUnit_33 (by decide) h (fun h => ?_) (fun h => ?_)
        · refine q_aload_n C dX2_stateBehindUnit_51 rfl 0 rfl ?_
          refine q_get C (Cn := RX2) (T := TX2) (Nf := 10) (ci := 2) (id := 34) (k := 8) (v := .int (σ.1 34 8)) nX2_stateBehindUnit_X2 (by decide) (ceC_34 ad cy _ _ _) rfl (by decide) rfl hX2_stateBehindUnit_34 dX2_stateBehindUnit_52 ?_
          refine q_if_ne C (tgt := 71) dX2_stateBehindUnit_55 (by decide) h (fun h => ?_) (fun h => ?_)
          · refine q_aload_n C dX2_stateBehindUnit_71 rfl 0 rfl ?_
            refine q_get C (Cn := RX2) (T := TX2) (Nf := 10) (ci := 2) (id := 34) (k := 5) (v := .int (σ.1 34 5)) nX2_stateBehindUnit_X2 (by decide) (ceC_34 ad cy _ _ _) rfl (by decide) rfl hX2_stateBehindUnit_25 dX2_stateBehindUnit_72 ?_
            refine q_bipush C (v := 15) dX2_stateBehindUnit_75 (by decide) ?_
            refine q_icmp_ne C (tgt := 82) dX2_stateBehindUnit_77 (by decide) h (fun h => ?_) (fun h => ?_)
            · refine q_aload_n C dX2_stateBehindUnit_82 rfl 0 rfl ?_
              refine q_get C (Cn := RX2) (T := TX2) (Nf := 10) (ci := 2) (id := 34) (k := 5) (v := .int (σ.1 34 5)) nX2_stateBehindUnit_X2 (by decide) (ceC_34 ad cy _ _ _) rfl (by decide) rfl hX2_stateBehindUnit_25 dX2_stateBehindUnit_83 ?_
              refine q_iconst C (v := 5) dX2_stateBehindUnit_86 (by decide) ?_
              refine q_join (G := fun (y103 : Int32) => qVi ceC 96 ad cy X A D p l e (headSpec wsX2_stateBehindUnit rmX2_stateBehindUnit).room s m args below meth c 1 r0 σ0 103 [] [.int y103] σ) h (fun y103 h => ?_) (fun j103 hj103 h => ?_)
              · exact q_iret C rfl dX2_stateBehindUnit_103 h
              refine q_join (G := fun (y98 : Unit) => qVi ceC 96 ad cy X A D p l e (headSpec wsX2_stateBehindUnit rmX2_stateBehindUnit).room s m args below meth c 1 r0 σ0 98 [] [] σ) h (fun y98 h => ?_) (fun j98 hj98 h => ?_)
              · refine q_iconst C (v := 2) dX2_stateBehindUnit_98 (by decide) ?_
                refine q_goto C (tgt := 103) dX2_stateBehindUnit_99 (by decide) ?_
                exact q_sub [] rfl (hj103 (2 : Int32) h)
              refine q_icmp_eq C (tgt := 98) dX2_stateBehindUnit_87 (by decide) h (fun h => ?_) (fun h => ?_)
              · exact q_sub [] rfl (hj98 () h)
              · refine q_aload_n C dX2_stateBehindUnit_90 rfl 0 rfl ?_
                refine q_get C (Cn := RX2) (T := TX2) (Nf := 10) (ci := 2) (id := 34) (k := 5) (v := .int (σ.1 34 5)) nX2_stateBehindUnit_X2 (by decide) (ceC_34 ad cy _ _ _) rfl (by decide) rfl hX2_stateBehindUnit_25 dX2_stateBehindUnit_91 ?_
                refine q_iconst C (v := 4) dX2_stateBehindUnit_94 (by decide) ?_
                refine q_icmp_ne C (tgt := 102) dX2_stateBehindUnit_95 (by decide) h (fun h => ?_) (fun h => ?_)
                · refine q_iconst C (v := -1) dX2_stateBehindUnit_102 (by decide) ?_
                  exact q_sub [] rfl (hj103 (-1 : Int32) h)
                · exact q_sub [] rfl (hj98 () h)
            · refine q_iconst C (v := 0) dX2_stateBehindUnit_80 (by decide) ?_
              exact q_iret C rfl dX2_stateBehindUnit_81 h
          · refine q_aload_n C dX2_stateBehindUnit_58 rfl 0 rfl ?_
            refine q_callVi C (rm := rmX2_isRelation) (As := []) (rest := []) (id := 34) (ci := 2) (fun r9 σ9 h9 => kX2_isRelation l D ad cy X A zs σ r9 σ9 h9) gX2_stateBehindUnit_X2_isRelation rfl rfl rfl hyX2_isRelation ⟨Nat.le_of_ble_eq_true rfl, Nat.le_of_ble_eq_true rfl⟩ (by decide) (ceC_34 ad cy _ _ _) rfl rfl rfl (Nat.le_of_ble_eq_true rfl) dX2_stateBehindUnit_59 ⟨Nat.zero_le _, Nat.zero_le _⟩ h (fun r59 σ59 h => ?_)
            refine q_join (G := fun (y70 : Int32) => qVi ceC 96 ad cy X A D p l e (headSpec wsX2_stateBehindUnit rmX2_stateBehindUnit).room s m args below meth c 1 r0 σ0 70 [] [.int y70] σ59) h (fun y70 h => ?_) (fun j70 hj70 h => ?_)
            · exact q_iret C rfl dX2_stateBehindUnit_70 h
            refine q_if_eq C (tgt := 69) dX2_stateBehindUnit_62 (by decide) h (fun h => ?_) (fun h => ?_)
            · refine q_iconst C (v := -1) dX2_stateBehindUnit_69 (by decide) ?_
              exact q_sub [] rfl (hj70 (-1 : Int32) h)
            · refine q_iconst C (v := 2) dX2_stateBehindUnit_65 (by decide) ?_
              refine q_goto C (tgt := 70) dX2_stateBehindUnit_66 (by decide) ?_
              exact q_sub [] rfl (hj70 (2 : Int32) h)
        · refine q_aload_n C dX2_stateBehindUnit_36 rfl 0 rfl ?_
          refine q_get C (Cn := RX2) (T := TX2) (Nf := 10) (ci := 2) (id := 34) (k := 5) (v := .int (σ.1 34 5)) nX2_stateBehindUnit_X2 (by decide) (ceC_34 ad cy _ _ _) rfl (by decide) rfl hX2_stateBehindUnit_25 dX2_stateBehindUnit_37 ?_
          refine q_bipush C (v := 24) dX2_stateBehindUnit_40 (by decide) ?_
          refine q_join (G := fun (y50 : Int32) => qVi ceC 96 ad cy X A D p l e (headSpec wsX2_stateBehindUnit rmX2_stateBehindUnit).room s m args below meth c 1 r0 σ0 50 [] [.int y50] σ) h (fun y50 h => ?_) (fun j50 hj50 h => ?_)
          · exact q_iret C rfl dX2_stateBehindUnit_50 h
          refine q_icmp_ne C (tgt := 49) dX2_stateBehindUnit_42 (by decide) h (fun h => ?_) (fun h => ?_)
          · refine q_iconst C (v := -1) dX2_stateBehindUnit_49 (by decide) ?_
            exact q_sub [] rfl (hj50 (-1 : Int32) h)
          · refine q_iconst C (v := 3) dX2_stateBehindUnit_45 (by decide) ?_
            refine q_goto C (tgt := 50) dX2_stateBehindUnit_46 (by decide) ?_
            exact q_sub [] rfl (hj50 (3 : Int32) h)
      · exact q_sub [] rfl (hj27 () h)
abbrev rmX2_stateBehind : Room := { frames := 2, cells := 0, slots := 0, locals := 40 }
theorem hyX2_stateBehind : yX2_stateBehind.cls = RX2 ∧ yX2_stateBehind.cls ≠ "java/lang/invoke/MethodHandle" ∧ yX2_stateBehind.cls ≠ "java/lang/invoke/VarHandle" ∧ (parseMethodDescriptor yX2_stateBehind.desc).map (fun d => d.parameters.length) = some 1 := by decide +kernel
theorem nX2_stateBehind_X2 : ∀ w ∈ u_ws RX2 TX2 10, w ∈ wsX2_stateBehind := fun w h => List.mem_cons_of_mem _ (List.mem_append_right _ h)
theorem hX2_stateBehind_25 : Cond.fieldLink RX2 25 (TX2 5).1 (TX2 5).2.1 (TX2 5).2.2.1 ∈ wsX2_stateBehind := by decide +kernel
def fX2_stateBehind (σ : St) (a1 : Int32) : Option (Int32 × St) := if a1 = (0 : Int32) then (qcall (fX2_isRuleWord σ) (fun r29 σ29 => qlet (fun (y40 : Int32) => (some (y40, σ29))) (fun j40 => (if r29 = (0 : Int32) then (j40 (-1 : Int32)) else (j40 (1 : Int32)))))) else (if a1 = (1 : Int32) then (qlet (fun (y54 : Int32) => (some (y54, σ))) (fun j54 => (if (σ.1 34 5) = (3 : Int32) then (j54 (2 : Int32)) else (j54 (-1 : Int32))))) else (if a1 = (2 : Int32) then (if (σ.1 34 5) = (23 : Int32) then (some ((2 : Int32), σ)) else (qlet (fun (y90 : Int32 × St) => (some (y90.1, y90.2))) (fun j90 => (qlet (fun (y85 : St) => (j90 ((3 : Int32), y85))) (fun j85 => (if (σ.1 34 5) = (14 : Int32) then (j85 σ) else (qcall (fX3_isVar σ (σ.1 34 5)) (fun r79 σ79 => if r79 = (0 : Int32) then (j90 ((-1 : Int32), σ79)) else (j85 σ79))))))))) else (qcall (fX2_stateBehindUnit σ) (fun r92 σ92 => some (r92, σ92)))))
set_option maxHeartbeats 4000000 in
set_option maxRecDepth 100000 in
theorem kX2_stateBehind (l : Launch) (D : va_G) (ad : Nat → Nat) (cy : Nat → ClassId) (X : va_W) (A : Nat → Prop) (zs : Nat × Nat × Option Nat) (σ : St) (a1 : Int32) (r0 : Int32) (σ0 : St) (h : fX2_stateBehind σ a1 = some (r0, σ0)) : Met l yX2_stateBehind wsX2_stateBehind rmX2_stateBehind (qPc ceC 96 ad cy X A D zs [.ref (ad 34), .int a1] σ) (qQi ceC 96 ad cy X A D r0 σ0) 0 0 A := by
  refine Met.ofW (cc := cX2_stateBehind) (maxL := 2) (ret := (some .int)) (by decide) rfl ?_
  intro p e s m args below meth c s₁ B hml hv
  obtain ⟨ha, hP, hK, hE, hD⟩ := hv
  have C : qC ceC 96 ad cy X A D zs cX2_stateBehind 2 RX2 wsX2_stateBehind p s m args meth c (some .int) := ⟨B.exec, B.bytes, hml, findClass_of_methodNamed B.named, atoms_spec (ws := wsX2_stateBehind) B.pre, hK, hD, B.returns, B.notSynchronized, hE⟩
  rw [show entryFrame m args 2 = entryFrame m ([.ref (ad 34), .int a1] : List Value).toArray 2 by rw [ha]]
  refine q_entry (A := A) (Nat.le_of_ble_eq_true rfl) hP (lv := [(0, .ref (ad 34)), (1, .int a1)]) rfl ?_
  unfold fX2_stateBehind at h
  refine q_iload_n C dX2_stateBehind_0 rfl 1 rfl ?_
  refine q_swc h (fun e1_0 h => ?_) (fun n1_0 h => ?_)
  · refine q_tabIn C dX2_stateBehind_1 (z := 0) (tgt := 28) (by rw [e1_0]; decide) (by decide) (by decide) rfl (by decide) ?_
    refine q_aload_n C dX2_stateBehind_28 rfl 0 rfl ?_
    refine q_callVi C (rm := rmX2_isRuleWord) (As := []) (rest := []) (id := 34) (ci := 2) (fun r9 σ9 h9 => kX2_isRuleWord l D ad cy X A zs σ r9 σ9 h9) gX2_stateBehind_X2_isRuleWord rfl rfl rfl hyX2_isRuleWord ⟨Nat.le_of_ble_eq_true rfl, Nat.le_of_ble_eq_true rfl⟩ (by decide) (ceC_34 ad cy _ _ _) rfl rfl rfl (Nat.le_of_ble_eq_true rfl) dX2_stateBehind_29 ⟨Nat.zero_le _, Nat.zero_le _⟩ h (fun r29 σ29 h => ?_)
    refine q_join (G := fun (y40 : Int32) => qVi ceC 96 ad cy X A D p l e (headSpec wsX2_stateBehind rmX2_stateBehind).room s m args below meth c 2 r0 σ0 40 [] [.int y40] σ29) h (fun y40 h => ?_) (fun j40 hj40 h => ?_)
    · exact q_iret C rfl dX2_stateBehind_40 h
    refine q_if_eq C (tgt := 39) dX2_stateBehind_32 (by decide) h (fun h => ?_) (fun h => ?_)
    · refine q_iconst C (v := -1) dX2_stateBehind_39 (by decide) ?_
      exact q_sub [] rfl (hj40 (-1 : Int32) h)
    · refine q_iconst C (v := 1) dX2_stateBehind_35 (by decide) ?_
      refine q_goto C (tgt := 40) dX2_stateBehind_36 (by decide) ?_
      exact q_sub [] rfl (hj40 (1 : Int32) h)
  refine q_swc h (fun e1_1 h => ?_) (fun n1_1 h => ?_)
  · refine q_tabIn C dX2_stateBehind_1 (z := 1) (tgt := 41) (by rw [e1_1]; decide) (by decide) (by decide) rfl (by decide) ?_
    refine q_aload_n C dX2_stateBehind_41 rfl 0 rfl ?_
    refine q_get C (Cn := RX2) (T := TX2) (Nf := 10) (ci := 2) (id := 34) (k := 5) (v := .int (σ.1 34 5)) nX2_stateBehind_X2 (by decide) (ceC_34 ad cy _ _ _) rfl (by decide) rfl hX2_stateBehind_25 dX2_stateBehind_42 ?_
    refine q_iconst C (v := 3) dX2_stateBehind_45 (by decide) ?_
    refine q_join (G := fun (y54 : Int32) => qVi ceC 96 ad cy X A D p l e (headSpec wsX2_stateBehind rmX2_stateBehind).room s m args below meth c 2 r0 σ0 54 [] [.int y54] σ) h (fun y54 h => ?_) (fun j54 hj54 h => ?_)
    · exact q_iret C rfl dX2_stateBehind_54 h
    refine q_icmp_ne C (tgt := 53) dX2_stateBehind_46 (by decide) h (fun h => ?_) (fun h => ?_)
    · refine q_iconst C (v := -1) dX2_stateBehind_53 (by decide) ?_
      exact q_sub [] rfl (hj54 (-1 : Int32) h)
    · refine q_iconst C (v := 2) dX2_stateBehind_49 (by decide) ?_
      refine q_goto C (tgt := 54) dX2_stateBehind_50 (by decide) ?_
      exact q_sub [] rfl (hj54 (2 : Int32) h)
  refine q_swc h (fun e1_2 h => ?_) (fun n1_2 h => ?_)
  · refine q_tabIn C dX2_stateBehind_1 (z := 2) (tgt := 55) (by rw [e1_2]; decide) (by decide) (by decide) rfl (by decide) ?_
    refine q_aload_n C dX2_stateBehind_55 rfl 0 rfl ?_
    refine q_get C (Cn := RX2) (T := TX2) (Nf := 10) (ci := 2) (id := 34) (k := 5) (v := .int (σ.1 34 5)) nX2_stateBehind_X2 (by decide) (ceC_34 ad cy _ _ _) rfl (by decide) rfl hX2_stateBehind_25 dX2_stateBehind_56 ?_
    refine q_bipush C (v := 23) dX2_stateBehind_59 (by decide) ?_
    refine q_icmp_ne C (tgt := 66) dX2_stateBehind_61 (by decide) h (fun h => ?_) (fun h => ?_)
    · refine q_aload_n C dX2_stateBehind_66 rfl 0 rfl ?_
      refine q_get C (Cn := RX2) (T := TX2) (Nf := 10) (ci := 2) (id := 34) (k := 5) (v := .int (σ.1 34 5)) nX2_stateBehind_X2 (by decide) (ceC_34 ad cy _ _ _) rfl (by decide) rfl hX2_stateBehind_25 dX2_stateBehind_67 ?_
      refine q_bipush C (v := 14) dX2_stateBehind_70 (by decide) ?_
      refine q_join (G := fun (y90 : Int32 × St) => qVi ceC 96 ad cy X A D p l e (headSpec wsX2_stateBehind rmX2_stateBehind).room s m args below meth c 2 r0 σ0 90 [] [.int y90.1] y90.2) h (fun y90 h => ?_) (fun j90 hj90 h => ?_)
      · exact q_iret C rfl dX2_stateBehind_90 h
      refine q_join (G := fun (y85 : St) => qVi ceC 96 ad cy X A D p l e (headSpec wsX2_stateBehind rmX2_stateBehind).room s m args below meth c 2 r0 σ0 85 [] [] y85) h (fun y85 h => ?_) (fun j85 hj85 h => ?_)
      · refine q_iconst C (v := 3) dX2_stateBehind_85 (by decide) ?_
        refine q_goto C (tgt := 90) dX2_stateBehind_86 (by decide) ?_
        exact q_sub [] rfl (hj90 ((3 : Int32), y85) h)
      refine q_icmp_eq C (tgt := 85) dX2_stateBehind_72 (by decide) h (fun h => ?_) (fun h => ?_)
      · exact q_sub [] rfl (hj85 σ h)
      · refine q_aload_n C dX2_stateBehind_75 rfl 0 rfl ?_
        refine q_get C (Cn := RX2) (T := TX2) (Nf := 10) (ci := 2) (id := 34) (k := 5) (v := .int (σ.1 34 5)) nX2_stateBehind_X2 (by decide) (ceC_34 ad cy _ _ _) rfl (by decide) rfl hX2_stateBehind_25 dX2_stateBehind_76 ?_
        refine q_callSi C (rm := rmX3_isVar) (As := [.int (σ.1 34 5)]) (rest := []) (fun r9 σ9 h9 => kX3_isVar l D ad cy X A zs σ (σ.1 34 5) r9 σ9 h9) gX2_stateBehind_X3_isVar rfl rfl rfl hyX3_isVar ⟨Nat.le_of_ble_eq_true rfl, Nat.le_of_ble_eq_true rfl⟩ rfl rfl (Nat.le_of_ble_eq_true rfl) dX2_stateBehind_79 ⟨Nat.zero_le _, Nat.zero_le _⟩ h (fun r79 σ79 h => ?_)
        refine q_if_eq C (tgt := 89) dX2_stateBehind_82 (by decide) h (fun h => ?_) (fun h => ?_)
        · refine q_iconst C (v := -1) dX2_stateBehind_89 (by decide) ?_
          exact q_sub [] rfl (hj90 ((-1 : Int32), σ79) h)
        · exact q_sub [] rfl (hj85 σ79 h)
    · refine q_iconst C (v := 2) dX2_stateBehind_64 (by decide) ?_
      exact q_iret C rfl dX2_stateBehind_65 h
  have hdf1 : qVi ceC 96 ad cy X A D p l e (headSpec wsX2_stateBehind rmX2_stateBehind).room s m args below meth c 2 r0 σ0 91 [(0, .ref (ad 34)), (1, .int a1)] [] σ := by
    refine q_aload_n C dX2_stateBehind_91 rfl 0 rfl ?_
    refine q_callVi C (rm := rmX2_stateBehindUnit) (As := []) (rest := []) (id := 34) (ci := 2) (fun r9 σ9 h9 => kX2_stateBehindUnit l D ad cy X A zs σ r9 σ9 h9) gX2_stateBehind_X2_stateBehindUnit rfl rfl rfl hyX2_stateBehindUnit ⟨Nat.le_of_ble_eq_true rfl, Nat.le_of_ble_eq_true rfl⟩ (by decide) (ceC_34 ad cy _ _ _) rfl rfl rfl (Nat.le_of_ble_eq_true rfl) dX2_stateBehind_92 ⟨Nat.zero_le _, Nat.zero_le _⟩ h (fun r92 σ92 h => ?_)
    exact q_iret C rfl dX2_stateBehind_95 h
  have zn1_0 := q_neI (z := 0) n1_0 (by decide)
  have zn1_1 := q_neI (z := 1) n1_1 (by decide)
  have zn1_2 := q_neI (z := 2) n1_2 (by decide)
  rcases (show (a1).toInt < 0 ∨ 2 < (a1).toInt by omega) with q | q
  · exact q_tabOut C dX2_stateBehind_1 (tgt := 91) (Or.inl q) (by decide) hdf1
  · exact q_tabOut C dX2_stateBehind_1 (tgt := 91) (Or.inr q) (by decide) hdf1
abbrev rmX2_lacksRoom : Room := { frames := 1, cells := 0, slots := 0, locals := 20 }
theorem hyX2_lacksRoom : yX2_lacksRoom.cls = RX2 ∧ yX2_lacksRoom.cls ≠ "java/lang/invoke/MethodHandle" ∧ yX2_lacksRoom.cls ≠ "java/lang/invoke/VarHandle" ∧ (parseMethodDescriptor yX2_lacksRoom.desc).map (fun d => d.parameters.length) = some 1 := by decide +kernel
theorem nX2_lacksRoom_X2 : ∀ w ∈ u_ws RX2 TX2 10, w ∈ wsX2_lacksRoom := fun w h => List.mem_cons_of_mem _ (List.mem_append_right _ h)
theorem nX2_lacksRoom_X3 : ∀ w ∈ u_ws RX3 TX3 6, w ∈ wsX2_lacksRoom := fun w h => List.mem_cons_of_mem _ (List.mem_append_left _ (List.mem_append_right _ h))
theorem hX2_lacksRoom_86 : Cond.fieldLink RX2 86 (TX3 5).1 (TX3 5).2.1 (TX3 5).2.2.1 ∈ wsX2_lacksRoom := by decide +kernel
theorem hX2_lacksRoom_25 : Cond.fieldLink RX2 25 (TX2 5).1 (TX2 5).2.1 (TX2 5).2.2.1 ∈ wsX2_lacksRoom := by decide +kernel
theorem hX2_lacksRoom_31 : Cond.fieldLink RX2 31 (TX2 7).1 (TX2 7).2.1 (TX2 7).2.2.1 ∈ wsX2_lacksRoom := by decide +kernel
def fX2_lacksRoom (σ : St) (t : Nat) : Option (Int32 × St) := qcall (fX2_isRuleWord σ) (fun r1 σ1 => qlet (fun (y39 : Int32) => (qzz y39 (some (y39, σ1)))) (fun j39 => (qlet (fun (y34 : Unit) => (j39 (1 : Int32))) (fun j34 => (qlet (fun (y16 : Unit) => (qlet (fun (y38 : Unit) => (j39 (0 : Int32))) (fun j38 => (if (σ1.1 34 5) = (23 : Int32) then (if (σ1.1 34 7) < (6 : Int32) then (j38 ()) else (j34 ())) else (j38 ()))))) (fun j16 => (if r1 = (0 : Int32) then (j16 ()) else (if (12 : Int32) ≤ (σ1.1 (61 + 5 * t) 5) then (j34 ()) else (j16 ())))))))))
set_option maxHeartbeats 4000000 in
set_option maxRecDepth 100000 in
theorem kX2_lacksRoom (l : Launch) (D : va_G) (ad : Nat → Nat) (cy : Nat → ClassId) (X : va_W) (A : Nat → Prop) (zs : Nat × Nat × Option Nat) (σ : St) (t : Nat) (ht : t < 7) (r0 : Int32) (σ0 : St) (h : fX2_lacksRoom σ t = some (r0, σ0)) : Met l yX2_lacksRoom wsX2_lacksRoom rmX2_lacksRoom (qPc ceC 96 ad cy X A D zs [.ref (ad 34), .ref (ad (61 + 5 * t))] σ) (qQi ceC 96 ad cy X A D r0 σ0) 0 0 A := by
  refine Met.ofW (cc := cX2_lacksRoom) (maxL := 2) (ret := (some .boolean)) (by decide) rfl ?_
  intro p e s m args below meth c s₁ B hml hv
  obtain ⟨ha, hP, hK, hE, hD⟩ := hv
  have C : qC ceC 96 ad cy X A D zs cX2_lacksRoom 2 RX2 wsX2_lacksRoom p s m args meth c (some .boolean) := ⟨B.exec, B.bytes, hml, findClass_of_methodNamed B.named, atoms_spec (ws := wsX2_lacksRoom) B.pre, hK, hD, B.returns, B.notSynchronized, hE⟩
  rw [show entryFrame m args 2 = entryFrame m ([.ref (ad 34), .ref (ad (61 + 5 * t))] : List Value).toArray 2 by rw [ha]]
  refine q_entry (A := A) (Nat.le_of_ble_eq_true rfl) hP (lv := [(0, .ref (ad 34)), (1, .ref (ad (61 + 5 * t)))]) rfl ?_
  unfold fX2_lacksRoom at h
  refine q_aload_n C dX2_lacksRoom_0 rfl 0 rfl ?_
  refine q_callVi C (rm := rmX2_isRuleWord) (As := []) (rest := []) (id := 34) (ci := 2) (fun r9 σ9 h9 => kX2_isRuleWord l D ad cy X A zs σ r9 σ9 h9) gX2_lacksRoom_X2_isRuleWord rfl rfl rfl hyX2_isRuleWord ⟨Nat.le_of_ble_eq_true rfl, Nat.le_of_ble_eq_true rfl⟩ (by decide) (ceC_34 ad cy _ _ _) rfl rfl rfl (Nat.le_of_ble_eq_true rfl) dX2_lacksRoom_1 ⟨Nat.zero_le _, Nat.zero_le _⟩ h (fun r1 σ1 h => ?_)
  refine q_join (G := fun (y39 : Int32) => qVi ceC 96 ad cy X A D p l e (headSpec wsX2_lacksRoom rmX2_lacksRoom).room s m args below meth c 2 r0 σ0 39 [] [.int y39] σ1) h (fun y39 h => ?_) (fun j39 hj39 h => ?_)
  · exact q_zret C rfl dX2_lacksRoom_39 h
  refine q_join (G := fun (y34 : Unit) => qVi ceC 96 ad cy X A D p l e (headSpec wsX2_lacksRoom rmX2_lacksRoom).room s m args below meth c 2 r0 σ0 34 [] [] σ1) h (fun y34 h => ?_) (fun j34 hj34 h => ?_)
  · refine q_iconst C (v := 1) dX2_lacksRoom_34 (by decide) ?_
    refine q_goto C (tgt := 39) dX2_lacksRoom_35 (by decide) ?_
    exact q_sub [] rfl (hj39 (1 : Int32) h)
  refine q_join (G := fun (y16 : Unit) => qVi ceC 96 ad cy X A D p l e (headSpec wsX2_lacksRoom rmX2_lacksRoom).room s m args below meth c 2 r0 σ0 16 [(0, .ref (ad 34))] [] σ1) h (fun y16 h => ?_) (fun j16 hj16 h => ?_)
  · refine q_aload_n C dX2_lacksRoom_16 rfl 0 rfl ?_
    refine q_get C (Cn := RX2) (T := TX2) (Nf := 10) (ci := 2) (id := 34) (k := 5) (v := .int (σ1.1 34 5)) nX2_lacksRoom_X2 (by decide) (ceC_34 ad cy _ _ _) rfl (by decide) rfl hX2_lacksRoom_25 dX2_lacksRoom_17 ?_
    refine q_bipush C (v := 23) dX2_lacksRoom_20 (by decide) ?_
    refine q_join (G := fun (y38 : Unit) => qVi ceC 96 ad cy X A D p l e (headSpec wsX2_lacksRoom rmX2_lacksRoom).room s m args below meth c 2 r0 σ0 38 [] [] σ1) h (fun y38 h => ?_) (fun j38 hj38 h => ?_)
    · refine q_iconst C (v := 0) dX2_lacksRoom_38 (by decide) ?_
      exact q_sub [] rfl (hj39 (0 : Int32) h)
    refine q_icmp_ne C (tgt := 38) dX2_lacksRoom_22 (by decide) h (fun h => ?_) (fun h => ?_)
    · exact q_sub [] rfl (hj38 () h)
    · refine q_aload_n C dX2_lacksRoom_25 rfl 0 rfl ?_
      refine q_get C (Cn := RX2) (T := TX2) (Nf := 10) (ci := 2) (id := 34) (k := 7) (v := .int (σ1.1 34 7)) nX2_lacksRoom_X2 (by decide) (ceC_34 ad cy _ _ _) rfl (by decide) rfl hX2_lacksRoom_31 dX2_lacksRoom_26 ?_
      refine q_bipush C (v := 6) dX2_lacksRoom_29 (by decide) ?_
      refine q_icmp_lt C (tgt := 38) dX2_lacksRoom_31 (by decide) h (fun h => ?_) (fun h => ?_)
      · exact q_sub [] rfl (hj38 () h)
      · exact q_sub [] rfl (hj34 () h)
  refine q_if_eq C (tgt := 16) dX2_lacksRoom_4 (by decide) h (fun h => ?_) (fun h => ?_)
  · exact q_sub [0] rfl (hj16 () h)
  · refine q_aload_n C dX2_lacksRoom_7 rfl 1 rfl ?_
    refine q_get C (Cn := RX3) (T := TX3) (Nf := 6) (ci := 3) (id := (61 + 5 * t)) (k := 5) (v := .int (σ1.1 (61 + 5 * t) 5)) nX2_lacksRoom_X3 (by omega) (ceC_t0 ad cy _ _ _ t) rfl (by decide) rfl hX2_lacksRoom_86 dX2_lacksRoom_8 ?_
    refine q_bipush C (v := 12) dX2_lacksRoom_11 (by decide) ?_
    refine q_icmp_ge C (tgt := 34) dX2_lacksRoom_13 (by decide) h (fun h => ?_) (fun h => ?_)
    · exact q_sub [] rfl (hj34 () h)
    · exact q_sub [0] rfl (hj16 () h)
abbrev rmX2_keepWaiting : Room := { frames := 0, cells := 0, slots := 0, locals := 0 }
theorem hyX2_keepWaiting : yX2_keepWaiting.cls = RX2 ∧ yX2_keepWaiting.cls ≠ "java/lang/invoke/MethodHandle" ∧ yX2_keepWaiting.cls ≠ "java/lang/invoke/VarHandle" ∧ (parseMethodDescriptor yX2_keepWaiting.desc).map (fun d => d.parameters.length) = some 0 := by decide +kernel
theorem nX2_keepWaiting_X2 : ∀ w ∈ u_ws RX2 TX2 10, w ∈ wsX2_keepWaiting := by decide +kernel
theorem hX2_keepWaiting_15 : Cond.fieldLink RX2 15 (TX2 1).1 (TX2 1).2.1 (TX2 1).2.2.1 ∈ wsX2_keepWaiting := by decide +kernel
theorem hX2_keepWaiting_9 : Cond.fieldLink RX2 9 (TX2 0).1 (TX2 0).2.1 (TX2 0).2.2.1 ∈ wsX2_keepWaiting := by decide +kernel
theorem hX2_keepWaiting_25 : Cond.fieldLink RX2 25 (TX2 5).1 (TX2 5).2.1 (TX2 5).2.2.1 ∈ wsX2_keepWaiting := by decide +kernel
def fX2_keepWaiting (σ : St) : Option (Int32 × St) := qlet (fun (y32 : St) => (some ((0 : Int32), y32))) (fun j32 => (if (32 : Int32) ≤ (σ.1 34 1) then (j32 σ) else (qix (σ.1 34 1) 32 (qlet (sI σ 35 (σ.1 34 1).toNatClampNeg (σ.1 34 5)) (fun σ21 => qlet (sI σ21 34 1 ((σ21.1 34 1) + (1 : Int32))) (fun σ29 => j32 σ29))))))
set_option maxHeartbeats 4000000 in
set_option maxRecDepth 100000 in
theorem kX2_keepWaiting (l : Launch) (D : va_G) (ad : Nat → Nat) (cy : Nat → ClassId) (X : va_W) (A : Nat → Prop) (zs : Nat × Nat × Option Nat) (σ : St) (r0 : Int32) (σ0 : St) (h : fX2_keepWaiting σ = some (r0, σ0)) : Met l yX2_keepWaiting wsX2_keepWaiting rmX2_keepWaiting (qPc ceC 96 ad cy X A D zs [.ref (ad 34)] σ) (qQv ceC 96 ad cy X A D σ0) 0 0 A := by
  refine Met.ofW (cc := cX2_keepWaiting) (maxL := 1) (ret := none) (by decide) rfl ?_
  intro p e s m args below meth c s₁ B hml hv
  obtain ⟨ha, hP, hK, hE, hD⟩ := hv
  have C : qC ceC 96 ad cy X A D zs cX2_keepWaiting 1 RX2 wsX2_keepWaiting p s m args meth c none := ⟨B.exec, B.bytes, hml, findClass_of_methodNamed B.named, atoms_spec (ws := wsX2_keepWaiting) B.pre, hK, hD, B.returns, B.notSynchronized, hE⟩
  rw [show entryFrame m args 1 = entryFrame m ([.ref (ad 34)] : List Value).toArray 1 by rw [ha]]
  refine q_entry (A := A) (Nat.le_of_ble_eq_true rfl) hP (lv := [(0, .ref (ad 34))]) rfl ?_
  unfold fX2_keepWaiting at h
  refine q_aload_n C dX2_keepWaiting_0 rfl 0 rfl ?_
  refine q_get C (Cn := RX2) (T := TX2) (Nf := 10) (ci := 2) (id := 34) (k := 1) (v := .int (σ.1 34 1)) nX2_keepWaiting_X2 (by decide) (ceC_34 ad cy _ _ _) rfl (by decide) rfl hX2_keepWaiting_15 dX2_keepWaiting_1 ?_
  refine q_bipush C (v := 32) dX2_keepWaiting_4 (by decide) ?_
  refine q_join (G := fun (y32 : St) => qVv ceC 96 ad cy X A D p l e (headSpec wsX2_keepWaiting rmX2_keepWaiting).room s m args below meth c 1 r0 σ0 32 [] [] y32) h (fun y32 h => ?_) (fun j32 hj32 h => ?_)
  · exact q_vret C (r0 := r0) rfl dX2_keepWaiting_32 h
  refine q_icmp_ge C (tgt := 32) dX2_keepWaiting_6 (by decide) h (fun h => ?_) (fun h => ?_)
  · exact q_sub [] rfl (hj32 σ h)
  · refine q_aload_n C dX2_keepWaiting_9 rfl 0 rfl ?_
    refine q_get C (Cn := RX2) (T := TX2) (Nf := 10) (ci := 2) (id := 34) (k := 0) (v := .ref (ad 35)) nX2_keepWaiting_X2 (by decide) (ceC_34 ad cy _ _ _) rfl (by decide) rfl hX2_keepWaiting_9 dX2_keepWaiting_10 ?_
    refine q_aload_n C dX2_keepWaiting_13 rfl 0 rfl ?_
    refine q_get C (Cn := RX2) (T := TX2) (Nf := 10) (ci := 2) (id := 34) (k := 1) (v := .int (σ.1 34 1)) nX2_keepWaiting_X2 (by decide) (ceC_34 ad cy _ _ _) rfl (by decide) rfl hX2_keepWaiting_15 dX2_keepWaiting_14 ?_
    refine q_aload_n C dX2_keepWaiting_17 rfl 0 rfl ?_
    refine q_get C (Cn := RX2) (T := TX2) (Nf := 10) (ci := 2) (id := 34) (k := 5) (v := .int (σ.1 34 5)) nX2_keepWaiting_X2 (by decide) (ceC_34 ad cy _ _ _) rfl (by decide) rfl hX2_keepWaiting_25 dX2_keepWaiting_18 ?_
    refine q_iast C (id := 35) (by decide) (fun f g => ceC_35 ad cy _ f g) dX2_keepWaiting_21 h (fun σ21 h => ?_)
    refine q_aload_n C dX2_keepWaiting_22 rfl 0 rfl ?_
    refine q_dup C dX2_keepWaiting_23 rfl ?_
    refine q_get C (Cn := RX2) (T := TX2) (Nf := 10) (ci := 2) (id := 34) (k := 1) (v := .int (σ21.1 34 1)) nX2_keepWaiting_X2 (by decide) (ceC_34 ad cy _ _ _) rfl (by decide) rfl hX2_keepWaiting_15 dX2_keepWaiting_24 ?_
    refine q_iconst C (v := 1) dX2_keepWaiting_27 (by decide) ?_
    refine q_iadd C dX2_keepWaiting_28 ?_
    refine q_put C (Cn := RX2) (T := TX2) (ty0 := tyX2) (Nf := 10) (ci := 2) (id := 34) (k := 1) (y := 0) tyX2_ok nmX2 nX2_keepWaiting_X2 (by decide) (ceC_34 ad cy _ _ _) (ceC_34 ad cy _ _ _) rfl (by decide) rfl (by decide +kernel) (Nat.le_of_ble_eq_true rfl) hX2_keepWaiting_15 dX2_keepWaiting_29 h (fun σ29 h => ?_)
    exact q_sub [] rfl (hj32 σ29 h)
abbrev rmX2_bond : Room := { frames := 0, cells := 0, slots := 0, locals := 0 }
theorem hyX2_bond : yX2_bond.cls ≠ "java/lang/invoke/MethodHandle" ∧ yX2_bond.cls ≠ "java/lang/invoke/VarHandle" ∧ (parseMethodDescriptor yX2_bond.desc).map (fun d => d.parameters.length) = some 1 := by decide +kernel
def fX2_bond (σ : St) (a0 : Int32) : Option (Int32 × St) := if a0 = (4 : Int32) then (some ((1 : Int32), σ)) else (if a0 = (5 : Int32) then (some ((2 : Int32), σ)) else (if a0 = (16 : Int32) then (some ((4 : Int32), σ)) else (if a0 = (17 : Int32) then (some ((4 : Int32), σ)) else (if a0 = (18 : Int32) then (some ((5 : Int32), σ)) else (if a0 = (19 : Int32) then (some ((3 : Int32), σ)) else (if a0 = (20 : Int32) then (some ((3 : Int32), σ)) else (if a0 = (21 : Int32) then (some ((3 : Int32), σ)) else (if a0 = (22 : Int32) then (some ((3 : Int32), σ)) else (some ((0 : Int32), σ))))))))))
set_option maxHeartbeats 4000000 in
set_option maxRecDepth 100000 in
theorem kX2_bond (l : Launch) (D : va_G) (ad : Nat → Nat) (cy : Nat → ClassId) (X : va_W) (A : Nat → Prop) (zs : Nat × Nat × Option Nat) (σ : St) (a0 : Int32) (r0 : Int32) (σ0 : St) (h : fX2_bond σ a0 = some (r0, σ0)) : Met l yX2_bond wsX2_bond rmX2_bond (qPc ceC 96 ad cy X A D zs [.int a0] σ) (qQi ceC 96 ad cy X A D r0 σ0) 0 0 A := by
  refine Met.ofW (cc := cX2_bond) (maxL := 1) (ret := (some .int)) (by decide) rfl ?_
  intro p e s m args below meth c s₁ B hml hv
  obtain ⟨ha, hP, hK, hE, hD⟩ := hv
  have C : qC ceC 96 ad cy X A D zs cX2_bond 1 RX2 wsX2_bond p s m args meth c (some .int) := ⟨B.exec, B.bytes, hml, findClass_of_methodNamed B.named, atoms_spec (ws := wsX2_bond) B.pre, hK, hD, B.returns, B.notSynchronized, hE⟩
  rw [show entryFrame m args 1 = entryFrame m ([.int a0] : List Value).toArray 1 by rw [ha]]
  refine q_entry (A := A) (Nat.le_of_ble_eq_true rfl) hP (lv := [(0, .int a0)]) rfl ?_
  unfold fX2_bond at h
  refine q_iload_n C dX2_bond_0 rfl 0 rfl ?_
  refine q_swc h (fun e1_4 h => ?_) (fun n1_4 h => ?_)
  · refine q_tabIn C dX2_bond_1 (z := 4) (tgt := 92) (by rw [e1_4]; decide) (by decide) (by decide) rfl (by decide) ?_
    refine q_iconst C (v := 1) dX2_bond_92 (by decide) ?_
    exact q_iret C rfl dX2_bond_93 h
  refine q_swc h (fun e1_5 h => ?_) (fun n1_5 h => ?_)
  · refine q_tabIn C dX2_bond_1 (z := 5) (tgt := 94) (by rw [e1_5]; decide) (by decide) (by decide) rfl (by decide) ?_
    refine q_iconst C (v := 2) dX2_bond_94 (by decide) ?_
    exact q_iret C rfl dX2_bond_95 h
  refine q_swc h (fun e1_16 h => ?_) (fun n1_16 h => ?_)
  · refine q_tabIn C dX2_bond_1 (z := 16) (tgt := 98) (by rw [e1_16]; decide) (by decide) (by decide) rfl (by decide) ?_
    refine q_iconst C (v := 4) dX2_bond_98 (by decide) ?_
    exact q_iret C rfl dX2_bond_99 h
  refine q_swc h (fun e1_17 h => ?_) (fun n1_17 h => ?_)
  · refine q_tabIn C dX2_bond_1 (z := 17) (tgt := 98) (by rw [e1_17]; decide) (by decide) (by decide) rfl (by decide) ?_
    refine q_iconst C (v := 4) dX2_bond_98 (by decide) ?_
    exact q_iret C rfl dX2_bond_99 h
  refine q_swc h (fun e1_18 h => ?_) (fun n1_18 h => ?_)
  · refine q_tabIn C dX2_bond_1 (z := 18) (tgt := 100) (by rw [e1_18]; decide) (by decide) (by decide) rfl (by decide) ?_
    refine q_iconst C (v := 5) dX2_bond_100 (by decide) ?_
    exact q_iret C rfl dX2_bond_101 h
  refine q_swc h (fun e1_19 h => ?_) (fun n1_19 h => ?_)
  · refine q_tabIn C dX2_bond_1 (z := 19) (tgt := 96) (by rw [e1_19]; decide) (by decide) (by decide) rfl (by decide) ?_
    refine q_iconst C (v := 3) dX2_bond_96 (by decide) ?_
    exact q_iret C rfl dX2_bond_97 h
  refine q_swc h (fun e1_20 h => ?_) (fun n1_20 h => ?_)
  · refine q_tabIn C dX2_bond_1 (z := 20) (tgt := 96) (by rw [e1_20]; decide) (by decide) (by decide) rfl (by decide) ?_
    refine q_iconst C (v := 3) dX2_bond_96 (by decide) ?_
    exact q_iret C rfl dX2_bond_97 h
  refine q_swc h (fun e1_21 h => ?_) (fun n1_21 h => ?_)
  · refine q_tabIn C dX2_bond_1 (z := 21) (tgt := 96) (by rw [e1_21]; decide) (by decide) (by decide) rfl (by decide) ?_
    refine q_iconst C (v := 3) dX2_bond_96 (by decide) ?_
    exact q_iret C rfl dX2_bond_97 h
  refine q_swc h (fun e1_22 h => ?_) (fun n1_22 h => ?_)
  · refine q_tabIn C dX2_bond_1 (z := 22) (tgt := 96) (by rw [e1_22]; decide) (by decide) (by decide) rfl (by decide) ?_
    refine q_iconst C (v := 3) dX2_bond_96 (by decide) ?_
    exact q_iret C rfl dX2_bond_97 h
  have hdf1 : qVi ceC 96 ad cy X A D p l e (headSpec wsX2_bond rmX2_bond).room s m args below meth c 1 r0 σ0 102 [(0, .int a0)] [] σ := by
    refine q_iconst C (v := 0) dX2_bond_102 (by decide) ?_
    exact q_iret C rfl dX2_bond_103 h
  have zn1_4 := q_neI (z := 4) n1_4 (by decide)
  have zn1_5 := q_neI (z := 5) n1_5 (by decide)
  have zn1_16 := q_neI (z := 16) n1_16 (by decide)
  have zn1_17 := q_neI (z := 17) n1_17 (by decide)
  have zn1_18 := q_neI (z := 18) n1_18 (by decide)
  have zn1_19 := q_neI (z := 19) n1_19 (by decide)
  have zn1_20 := q_neI (z := 20) n1_20 (by decide)
  have zn1_21 := q_neI (z := 21) n1_21 (by decide)
  have zn1_22 := q_neI (z := 22) n1_22 (by decide)
  rcases (show (a0).toInt < 4 ∨ 22 < (a0).toInt ∨ (a0).toInt = 6 ∨ (a0).toInt = 7 ∨ (a0).toInt = 8 ∨ (a0).toInt = 9 ∨ (a0).toInt = 10 ∨ (a0).toInt = 11 ∨ (a0).toInt = 12 ∨ (a0).toInt = 13 ∨ (a0).toInt = 14 ∨ (a0).toInt = 15 by omega) with q | q | q | q | q | q | q | q | q | q | q | q
  · exact q_tabOut C dX2_bond_1 (tgt := 102) (Or.inl q) (by decide) hdf1
  · exact q_tabOut C dX2_bond_1 (tgt := 102) (Or.inr q) (by decide) hdf1
  · exact q_tabIn C dX2_bond_1 (z := 6) (tgt := 102) q (by decide) (by decide) rfl (by decide) hdf1
  · exact q_tabIn C dX2_bond_1 (z := 7) (tgt := 102) q (by decide) (by decide) rfl (by decide) hdf1
  · exact q_tabIn C dX2_bond_1 (z := 8) (tgt := 102) q (by decide) (by decide) rfl (by decide) hdf1
  · exact q_tabIn C dX2_bond_1 (z := 9) (tgt := 102) q (by decide) (by decide) rfl (by decide) hdf1
  · exact q_tabIn C dX2_bond_1 (z := 10) (tgt := 102) q (by decide) (by decide) rfl (by decide) hdf1
  · exact q_tabIn C dX2_bond_1 (z := 11) (tgt := 102) q (by decide) (by decide) rfl (by decide) hdf1
  · exact q_tabIn C dX2_bond_1 (z := 12) (tgt := 102) q (by decide) (by decide) rfl (by decide) hdf1
  · exact q_tabIn C dX2_bond_1 (z := 13) (tgt := 102) q (by decide) (by decide) rfl (by decide) hdf1
  · exact q_tabIn C dX2_bond_1 (z := 14) (tgt := 102) q (by decide) (by decide) rfl (by decide) hdf1
  · exact q_tabIn C dX2_bond_1 (z := 15) (tgt := 102) q (by decide) (by decide) rfl (by decide) hdf1
abbrev rmX2_emitWaiting : Room := { frames := 1, cells := 0, slots := 0, locals := 21 }
theorem hyX2_emitWaiting : yX2_emitWaiting.cls = RX2 ∧ yX2_emitWaiting.cls ≠ "java/lang/invoke/MethodHandle" ∧ yX2_emitWaiting.cls ≠ "java/lang/invoke/VarHandle" ∧ (parseMethodDescriptor yX2_emitWaiting.desc).map (fun d => d.parameters.length) = some 2 := by decide +kernel
theorem nX2_emitWaiting_X2 : ∀ w ∈ u_ws RX2 TX2 10, w ∈ wsX2_emitWaiting := by decide +kernel
theorem hX2_emitWaiting_15 : Cond.fieldLink RX2 15 (TX2 1).1 (TX2 1).2.1 (TX2 1).2.2.1 ∈ wsX2_emitWaiting := by decide +kernel
theorem hX2_emitWaiting_9 : Cond.fieldLink RX2 9 (TX2 0).1 (TX2 0).2.1 (TX2 0).2.2.1 ∈ wsX2_emitWaiting := by decide +kernel
def fX2_emitWaiting_L (t : Nat) (a2 : Int32) : Nat → St → Option (Int32 × St)
  | 0, _ => none
  | n + 1, σ => qlet (fun (y55 : St) => (some ((0 : Int32), y55))) (fun j55 => (if (σ.1 34 1) ≤ (0 : Int32) then (j55 σ) else (qix ((σ.1 34 1) - (1 : Int32)) 32 (qcall (fX2_bond σ (σ.1 35 ((σ.1 34 1) - (1 : Int32)).toNatClampNeg)) (fun r18 σ18 => if r18 < a2 then (j55 σ18) else (qlet (sI σ18 34 1 ((σ18.1 34 1) - (1 : Int32))) (fun σ32 => qix (σ32.1 34 1) 32 (qcall (fX3_addCode σ32 t ((10000 : Int32) + (σ32.1 35 (σ32.1 34 1).toNatClampNeg))) (fun _ σ49 => fX2_emitWaiting_L t a2 n σ49)))))))))
def fX2_emitWaiting (σ : St) (t : Nat) (a2 : Int32) : Option (Int32 × St) := fX2_emitWaiting_L t a2 100000 σ
set_option maxHeartbeats 4000000 in
set_option maxRecDepth 100000 in
theorem kX2_emitWaiting_L {ad : Nat → Nat} {cy : Nat → ClassId} {X : va_W} {A : Nat → Prop} {D : va_G} {zs : Nat × Nat × Option Nat} {p : Program} {l : Launch} {e : Env} {s : State} {m : MethodId} {args : Array Value} {below : List Frame} {meth : Method} {c : Code} {t : Nat} {a2 : Int32} (C : qC ceC 96 ad cy X A D zs cX2_emitWaiting 3 RX2 wsX2_emitWaiting p s m args meth c none) (r0 : Int32) (σ0 : St) (n : Nat) (ht : t < 7) : (∀ (σ : St), fX2_emitWaiting_L t a2 n σ = some (r0, σ0) → qVv ceC 96 ad cy X A D p l e (headSpec wsX2_emitWaiting rmX2_emitWaiting).room s m args below meth c 3 r0 σ0 0 [(0, .ref (ad 34)), (1, .ref (ad (61 + 5 * t))), (2, .int a2)] [] σ) := by
  induction n with
  | zero =>
    intro  σ h; cases h
  | succ n ih =>
    intro  σ h
    rw [fX2_emitWaiting_L] at h
    refine q_aload_n C dX2_emitWaiting_0 rfl 0 rfl ?_
    refine q_get C (Cn := RX2) (T := TX2) (Nf := 10) (ci := 2) (id := 34) (k := 1) (v := .int (σ.1 34 1)) nX2_emitWaiting_X2 (by decide) (ceC_34 ad cy _ _ _) rfl (by decide) rfl hX2_emitWaiting_15 dX2_emitWaiting_1 ?_
    refine q_join (G := fun (y55 : St) => qVv ceC 96 ad cy X A D p l e (headSpec wsX2_emitWaiting rmX2_emitWaiting).room s m args below meth c 3 r0 σ0 55 [] [] y55) h (fun y55 h => ?_) (fun j55 hj55 h => ?_)
    · exact q_vret C (r0 := r0) rfl dX2_emitWaiting_55 h
    refine q_if_le C (tgt := 55) dX2_emitWaiting_4 (by decide) h (fun h => ?_) (fun h => ?_)
    · exact q_sub [] rfl (hj55 σ h)
    · refine q_aload_n C dX2_emitWaiting_7 rfl 0 rfl ?_
      refine q_get C (Cn := RX2) (T := TX2) (Nf := 10) (ci := 2) (id := 34) (k := 0) (v := .ref (ad 35)) nX2_emitWaiting_X2 (by decide) (ceC_34 ad cy _ _ _) rfl (by decide) rfl hX2_emitWaiting_9 dX2_emitWaiting_8 ?_
      refine q_aload_n C dX2_emitWaiting_11 rfl 0 rfl ?_
      refine q_get C (Cn := RX2) (T := TX2) (Nf := 10) (ci := 2) (id := 34) (k := 1) (v := .int (σ.1 34 1)) nX2_emitWaiting_X2 (by decide) (ceC_34 ad cy _ _ _) rfl (by decide) rfl hX2_emitWaiting_15 dX2_emitWaiting_12 ?_
      refine q_iconst C (v := 1) dX2_emitWaiting_15 (by decide) ?_
      refine q_isub C dX2_emitWaiting_16 ?_
      refine q_iald C (id := 35) (by decide) (ceC_35 ad cy _ _ _) dX2_emitWaiting_17 h (fun h => ?_)
      refine q_callSi C (rm := rmX2_bond) (As := [.int (σ.1 35 ((σ.1 34 1) - (1 : Int32)).toNatClampNeg)]) (rest := []) (fun r9 σ9 h9 => kX2_bond l D ad cy X A zs σ (σ.1 35 ((σ.1 34 1) - (1 : Int32)).toNatClampNeg) r9 σ9 h9) gX2_emitWaiting_X2_bond rfl rfl rfl hyX2_bond ⟨Nat.le_of_ble_eq_true rfl, Nat.le_of_ble_eq_true rfl⟩ rfl rfl (Nat.le_of_ble_eq_true rfl) dX2_emitWaiting_18 ⟨Nat.zero_le _, Nat.zero_le _⟩ h (fun r18 σ18 h => ?_)
      refine q_iload_n C dX2_emitWaiting_21 rfl 2 rfl ?_
      refine q_icmp_lt C (tgt := 55) dX2_emitWaiting_22 (by decide) h (fun h => ?_) (fun h => ?_)
      · exact q_sub [] rfl (hj55 σ18 h)
      · refine q_aload_n C dX2_emitWaiting_25 rfl 0 rfl ?_
        refine q_dup C dX2_emitWaiting_26 rfl ?_
        refine q_get C (Cn := RX2) (T := TX2) (Nf := 10) (ci := 2) (id := 34) (k := 1) (v := .int (σ18.1 34 1)) nX2_emitWaiting_X2 (by decide) (ceC_34 ad cy _ _ _) rfl (by decide) rfl hX2_emitWaiting_15 dX2_emitWaiting_27 ?_
        refine q_iconst C (v := 1) dX2_emitWaiting_30 (by decide) ?_
        refine q_isub C dX2_emitWaiting_31 ?_
        refine q_put C (Cn := RX2) (T := TX2) (ty0 := tyX2) (Nf := 10) (ci := 2) (id := 34) (k := 1) (y := 0) tyX2_ok nmX2 nX2_emitWaiting_X2 (by decide) (ceC_34 ad cy _ _ _) (ceC_34 ad cy _ _ _) rfl (by decide) rfl (by decide +kernel) (Nat.le_of_ble_eq_true rfl) hX2_emitWaiting_15 dX2_emitWaiting_32 h (fun σ32 h => ?_)
        refine q_aload_n C dX2_emitWaiting_35 rfl 1 rfl ?_
        refine q_sipush C (v := 10000) dX2_emitWaiting_36 (by decide) ?_
        refine q_aload_n C dX2_emitWaiting_39 rfl 0 rfl ?_
        refine q_get C (Cn := RX2) (T := TX2) (Nf := 10) (ci := 2) (id := 34) (k := 0) (v := .ref (ad 35)) nX2_emitWaiting_X2 (by decide) (ceC_34 ad cy _ _ _) rfl (by decide) rfl hX2_emitWaiting_9 dX2_emitWaiting_40 ?_
        refine q_aload_n C dX2_emitWaiting_43 rfl 0 rfl ?_
        refine q_get C (Cn := RX2) (T := TX2) (Nf := 10) (ci := 2) (id := 34) (k := 1) (v := .int (σ32.1 34 1)) nX2_emitWaiting_X2 (by decide) (ceC_34 ad cy _ _ _) rfl (by decide) rfl hX2_emitWaiting_15 dX2_emitWaiting_44 ?_
        refine q_iald C (id := 35) (by decide) (ceC_35 ad cy _ _ _) dX2_emitWaiting_47 h (fun h => ?_)
        refine q_iadd C dX2_emitWaiting_48 ?_
        refine q_callVv C (rm := rmX3_addCode) (As := [.int ((10000 : Int32) + (σ32.1 35 (σ32.1 34 1).toNatClampNeg))]) (rest := []) (id := (61 + 5 * t)) (ci := 3) (fun r9 σ9 h9 => kX3_addCode l D ad cy X A zs σ32 t ((10000 : Int32) + (σ32.1 35 (σ32.1 34 1).toNatClampNeg)) ht r9 σ9 h9) gX2_emitWaiting_X3_addCode rfl rfl rfl hyX3_addCode ⟨Nat.le_of_ble_eq_true rfl, Nat.le_of_ble_eq_true rfl⟩ (by omega) (ceC_t0 ad cy _ _ _ t) rfl rfl rfl (Nat.le_of_ble_eq_true rfl) dX2_emitWaiting_49 ⟨Nat.zero_le _, Nat.zero_le _⟩ h (fun r49 σ49 h => ?_)
        refine q_goto C (tgt := 0) dX2_emitWaiting_52 (by decide) ?_
        exact q_sub [0, 1, 2] rfl (ih σ49 h)
set_option maxHeartbeats 4000000 in
set_option maxRecDepth 100000 in
theorem kX2_emitWaiting (l : Launch) (D : va_G) (ad : Nat → Nat) (cy : Nat → ClassId) (X : va_W) (A : Nat → Prop) (zs : Nat × Nat × Option Nat) (σ : St) (t : Nat) (a2 : Int32) (ht : t < 7) (r0 : Int32) (σ0 : St) (h : fX2_emitWaiting σ t a2 = some (r0, σ0)) : Met l yX2_emitWaiting wsX2_emitWaiting rmX2_emitWaiting (qPc ceC 96 ad cy X A D zs [.ref (ad 34), .ref (ad (61 + 5 * t)), .int a2] σ) (qQv ceC 96 ad cy X A D σ0) 0 0 A := by
  refine Met.ofW (cc := cX2_emitWaiting) (maxL := 3) (ret := none) (by decide) rfl ?_
  intro p e s m args below meth c s₁ B hml hv
  obtain ⟨ha, hP, hK, hE, hD⟩ := hv
  have C : qC ceC 96 ad cy X A D zs cX2_emitWaiting 3 RX2 wsX2_emitWaiting p s m args meth c none := ⟨B.exec, B.bytes, hml, findClass_of_methodNamed B.named, atoms_spec (ws := wsX2_emitWaiting) B.pre, hK, hD, B.returns, B.notSynchronized, hE⟩
  rw [show entryFrame m args 3 = entryFrame m ([.ref (ad 34), .ref (ad (61 + 5 * t)), .int a2] : List Value).toArray 3 by rw [ha]]
  refine q_entry (A := A) (Nat.le_of_ble_eq_true rfl) hP (lv := [(0, .ref (ad 34)), (1, .ref (ad (61 + 5 * t))), (2, .int a2)]) rfl ?_
  unfold fX2_emitWaiting at h
  exact q_sub [0, 1, 2] rfl ((kX2_emitWaiting_L C r0 σ0 100000 ht) σ h)
abbrev rmX2_takeToken : Room := { frames := 2, cells := 0, slots := 0, locals := 43 }
theorem hyX2_takeToken : yX2_takeToken.cls = RX2 ∧ yX2_takeToken.cls ≠ "java/lang/invoke/MethodHandle" ∧ yX2_takeToken.cls ≠ "java/lang/invoke/VarHandle" ∧ (parseMethodDescriptor yX2_takeToken.desc).map (fun d => d.parameters.length) = some 1 := by decide +kernel
theorem nX2_takeToken_X2 : ∀ w ∈ u_ws RX2 TX2 10, w ∈ wsX2_takeToken := fun w h => List.mem_cons_of_mem _ (List.mem_append_left _ (List.mem_append_right _ h))
theorem hX2_takeToken_25 : Cond.fieldLink RX2 25 (TX2 5).1 (TX2 5).2.1 (TX2 5).2.2.1 ∈ wsX2_takeToken := by decide +kernel
theorem hX2_takeToken_28 : Cond.fieldLink RX2 28 (TX2 6).1 (TX2 6).2.1 (TX2 6).2.2.1 ∈ wsX2_takeToken := by decide +kernel
theorem hX2_takeToken_31 : Cond.fieldLink RX2 31 (TX2 7).1 (TX2 7).2.1 (TX2 7).2.2.1 ∈ wsX2_takeToken := by decide +kernel
theorem hX2_takeToken_15 : Cond.fieldLink RX2 15 (TX2 1).1 (TX2 1).2.1 (TX2 1).2.2.1 ∈ wsX2_takeToken := by decide +kernel
theorem hX2_takeToken_106 : Cond.methodLink RX2 106 Lib.Math.max.name ∈ wsX2_takeToken := by decide +kernel
theorem hX2_takeToken_maxs : Cond.static Lib.Math.max.name ∈ wsX2_takeToken := by decide +kernel
theorem hX2_takeToken_mi : Cond.initialized "java/lang/Math" ∈ wsX2_takeToken := by decide +kernel
theorem hX2_takeToken_maxc : Cond.code Lib.Math.max.name Lib.Math.max.code 2 (some .int) ∈ wsX2_takeToken := by decide +kernel
theorem hX2_takeToken_34 : Cond.fieldLink RX2 34 (TX2 8).1 (TX2 8).2.1 (TX2 8).2.2.1 ∈ wsX2_takeToken := by decide +kernel
def fX2_takeToken (σ : St) (t : Nat) : Option (Int32 × St) := qcall (fX2_isRuleWord σ) (fun r1 σ1 => qlet (fun (y227 : St) => (some ((0 : Int32), y227))) (fun j227 => (if r1 = (0 : Int32) then (if (σ1.1 34 5) = (14 : Int32) then (qcall (fX3_addCode σ1 t (σ1.1 34 6)) (fun _ σ32 => j227 σ32)) else (qcall (fX3_isVar σ1 (σ1.1 34 5)) (fun r42 σ42 => if r42 = (0 : Int32) then (if (σ42.1 34 5) = (23 : Int32) then (qlet (sI σ42 34 7 ((σ42.1 34 7) + (1 : Int32))) (fun σ79 => qcall (fX2_keepWaiting σ79) (fun _ σ83 => j227 σ83))) else (if (σ42.1 34 5) = (24 : Int32) then (qlet (sI σ42 34 7 ((σ42.1 34 7) - (1 : Int32))) (fun σ105 => qcall (fX2_bond σ105 (4 : Int32)) (fun r111 σ111 => qcall (fX2_emitWaiting σ111 t r111) (fun _ σ114 => qlet (sI σ114 34 1 (if ((σ114.1 34 1) - (1 : Int32)) < (0 : Int32) then (0 : Int32) else ((σ114.1 34 1) - (1 : Int32)))) (fun σ128 => j227 σ128))))) else (if (σ42.1 34 5) = (15 : Int32) then (qcall (fX2_bond σ42 (4 : Int32)) (fun r146 σ146 => qcall (fX2_emitWaiting σ146 t r146) (fun _ σ149 => qzz (0 : Int32) (qlet (sI σ149 34 8 (0 : Int32)) (fun σ154 => qcall (fX3_closeRule σ154 t) (fun _ σ158 => j227 σ158)))))) else (if (σ42.1 34 5) = (3 : Int32) then (j227 σ42) else (qcall (fX2_bond σ42 (σ42.1 34 5)) (fun r178 σ178 => qcall (fX2_emitWaiting σ178 t r178) (fun _ σ181 => qcall (fX2_isRelation σ181) (fun r186 σ186 => qlet (fun (y220 : Int32) => (qzz y220 (qlet (sI σ186 34 8 y220) (fun σ220 => qcall (fX2_keepWaiting σ220) (fun _ σ224 => j227 σ224))))) (fun j220 => (qlet (fun (y215 : Unit) => (j220 (1 : Int32))) (fun j215 => (if r186 = (0 : Int32) then (qlet (fun (y219 : Unit) => (j220 (0 : Int32))) (fun j219 => (if (σ186.1 34 8) = (0 : Int32) then (j219 ()) else (if (σ186.1 34 5) = (5 : Int32) then (j219 ()) else (if (σ186.1 34 5) = (4 : Int32) then (j219 ()) else (j215 ())))))) else (j215 ()))))))))))))) else (qcall (fX3_addCode σ42 t ((10000 : Int32) + (σ42.1 34 5))) (fun _ σ57 => j227 σ57))))) else (qcall (fX3_openRule σ1 t (σ1.1 34 5)) (fun _ σ12 => j227 σ12)))))
set_option maxHeartbeats 4000000 in
set_option maxRecDepth 100000 in
theorem kX2_takeToken (l : Launch) (D : va_G) (ad : Nat → Nat) (cy : Nat → ClassId) (X : va_W) (A : Nat → Prop) (zs : Nat × Nat × Option Nat) (σ : St) (t : Nat) (ht : t < 7) (r0 : Int32) (σ0 : St) (h : fX2_takeToken σ t = some (r0, σ0)) : Met l yX2_takeToken wsX2_takeToken rmX2_takeToken (qPc ceC 96 ad cy X A D zs [.ref (ad 34), .ref (ad (61 + 5 * t))] σ) (qQv ceC 96 ad cy X A D σ0) 0 0 A := by
  refine Met.ofW (cc := cX2_takeToken) (maxL := 2) (ret := none) (by decide) rfl ?_
  intro p e s m args below meth c s₁ B hml hv
  obtain ⟨ha, hP, hK, hE, hD⟩ := hv
  have C : qC ceC 96 ad cy X A D zs cX2_takeToken 2 RX2 wsX2_takeToken p s m args meth c none := ⟨B.exec, B.bytes, hml, findClass_of_methodNamed B.named, atoms_spec (ws := wsX2_takeToken) B.pre, hK, hD, B.returns, B.notSynchronized, hE⟩
  rw [show entryFrame m args 2 = entryFrame m ([.ref (ad 34), .ref (ad (61 + 5 * t))] : List Value).toArray 2 by rw [ha]]
  refine q_entry (A := A) (Nat.le_of_ble_eq_true rfl) hP (lv := [(0, .ref (ad 34)), (1, .ref (ad (61 + 5 * t)))]) rfl ?_
  unfold fX2_takeToken at h
  refine q_aload_n C dX2_takeToken_0 rfl 0 rfl ?_
  refine q_callVi C (rm := rmX2_isRuleWord) (As := []) (rest := []) (id := 34) (ci := 2) (fun r9 σ9 h9 => kX2_isRuleWord l D ad cy X A zs σ r9 σ9 h9) gX2_takeToken_X2_isRuleWord rfl rfl rfl hyX2_isRuleWord ⟨Nat.le_of_ble_eq_true rfl, Nat.le_of_ble_eq_true rfl⟩ (by decide) (ceC_34 ad cy _ _ _) rfl rfl rfl (Nat.le_of_ble_eq_true rfl) dX2_takeToken_1 ⟨Nat.zero_le _, Nat.zero_le _⟩ h (fun r1 σ1 h => ?_)
  refine q_join (G := fun (y227 : St) => qVv ceC 96 ad cy X A D p l e (headSpec wsX2_takeToken rmX2_takeToken).room s m args below meth c 2 r0 σ0 227 [] [] y227) h (fun y227 h => ?_) (fun j227 hj227 h => ?_)
  · exact q_vret C (r0 := r0) rfl dX2_takeToken_227 h
  refine q_if_eq C (tgt := 18) dX2_takeToken_4 (by decide) h (fun h => ?_) (fun h => ?_)
  · refine q_aload_n C dX2_takeToken_18 rfl 0 rfl ?_
    refine q_get C (Cn := RX2) (T := TX2) (Nf := 10) (ci := 2) (id := 34) (k := 5) (v := .int (σ1.1 34 5)) nX2_takeToken_X2 (by decide) (ceC_34 ad cy _ _ _) rfl (by decide) rfl hX2_takeToken_25 dX2_takeToken_19 ?_
    refine q_bipush C (v := 14) dX2_takeToken_22 (by decide) ?_
    refine q_icmp_ne C (tgt := 38) dX2_takeToken_24 (by decide) h (fun h => ?_) (fun h => ?_)
    · refine q_aload_n C dX2_takeToken_38 rfl 0 rfl ?_
      refine q_get C (Cn := RX2) (T := TX2) (Nf := 10) (ci := 2) (id := 34) (k := 5) (v := .int (σ1.1 34 5)) nX2_takeToken_X2 (by decide) (ceC_34 ad cy _ _ _) rfl (by decide) rfl hX2_takeToken_25 dX2_takeToken_39 ?_
      refine q_callSi C (rm := rmX3_isVar) (As := [.int (σ1.1 34 5)]) (rest := []) (fun r9 σ9 h9 => kX3_isVar l D ad cy X A zs σ1 (σ1.1 34 5) r9 σ9 h9) gX2_takeToken_X3_isVar rfl rfl rfl hyX3_isVar ⟨Nat.le_of_ble_eq_true rfl, Nat.le_of_ble_eq_true rfl⟩ rfl rfl (Nat.le_of_ble_eq_true rfl) dX2_takeToken_42 ⟨Nat.zero_le _, Nat.zero_le _⟩ h (fun r42 σ42 h => ?_)
      refine q_if_eq C (tgt := 63) dX2_takeToken_45 (by decide) h (fun h => ?_) (fun h => ?_)
      · refine q_aload_n C dX2_takeToken_63 rfl 0 rfl ?_
        refine q_get C (Cn := RX2) (T := TX2) (Nf := 10) (ci := 2) (id := 34) (k := 5) (v := .int (σ42.1 34 5)) nX2_takeToken_X2 (by decide) (ceC_34 ad cy _ _ _) rfl (by decide) rfl hX2_takeToken_25 dX2_takeToken_64 ?_
        refine q_bipush C (v := 23) dX2_takeToken_67 (by decide) ?_
        refine q_icmp_ne C (tgt := 89) dX2_takeToken_69 (by decide) h (fun h => ?_) (fun h => ?_)
        · refine q_aload_n C dX2_takeToken_89 rfl 0 rfl ?_
          refine q_get C (Cn := RX2) (T := TX2) (Nf := 10) (ci := 2) (id := 34) (k := 5) (v := .int (σ42.1 34 5)) nX2_takeToken_X2 (by decide) (ceC_34 ad cy _ _ _) rfl (by decide) rfl hX2_takeToken_25 dX2_takeToken_90 ?_
          refine q_bipush C (v := 24) dX2_takeToken_93 (by decide) ?_
          refine q_icmp_ne C (tgt := 134) dX2_takeToken_95 (by decide) h (fun h => ?_) (fun h => ?_)
          · refine q_aload_n C dX2_takeToken_134 rfl 0 rfl ?_
            refine q_get C (Cn := RX2) (T := TX2) (Nf := 10) (ci := 2) (id := 34) (k := 5) (v := .int (σ42.1 34 5)) nX2_takeToken_X2 (by decide) (ceC_34 ad cy _ _ _) rfl (by decide) rfl hX2_takeToken_25 dX2_takeToken_135 ?_
            refine q_bipush C (v := 15) dX2_takeToken_138 (by decide) ?_
            refine q_icmp_ne C (tgt := 164) dX2_takeToken_140 (by decide) h (fun h => ?_) (fun h => ?_)
            · refine q_aload_n C dX2_takeToken_164 rfl 0 rfl ?_
              refine q_get C (Cn := RX2) (T := TX2) (Nf := 10) (ci := 2) (id := 34) (k := 5) (v := .int (σ42.1 34 5)) nX2_takeToken_X2 (by decide) (ceC_34 ad cy _ _ _) rfl (by decide) rfl hX2_takeToken_25 dX2_takeToken_165 ?_
              refine q_iconst C (v := 3) dX2_takeToken_168 (by decide) ?_
              refine q_icmp_eq C (tgt := 227) dX2_takeToken_169 (by decide) h (fun h => ?_) (fun h => ?_)
              · exact q_sub [] rfl (hj227 σ42 h)
              · refine q_aload_n C dX2_takeToken_172 rfl 0 rfl ?_
                refine q_aload_n C dX2_takeToken_173 rfl 1 rfl ?_
                refine q_aload_n C dX2_takeToken_174 rfl 0 rfl ?_
                refine q_get C (Cn := RX2) (T := TX2) (Nf := 10) (ci := 2) (id := 34) (k := 5) (v := .int (σ42.1 34 5)) nX2_takeToken_X2 (by decide) (ceC_34 ad cy _ _ _) rfl (by decide) rfl hX2_takeToken_25 dX2_takeToken_175 ?_
                refine q_callSi C (rm := rmX2_bond) (As := [.int (σ42.1 34 5)]) (rest := [.ref (ad (61 + 5 * t)), .ref (ad 34)]) (fun r9 σ9 h9 => kX2_bond l D ad cy X A zs σ42 (σ42.1 34 5) r9 σ9 h9) gX2_takeToken_X2_bond rfl rfl rfl hyX2_bond ⟨Nat.le_of_ble_eq_true rfl, Nat.le_of_ble_eq_true rfl⟩ rfl rfl (Nat.le_of_ble_eq_true rfl) dX2_takeToken_178 ⟨Nat.zero_le _, Nat.zero_le _⟩ h (fun r178 σ178 h => ?_)
                refine q_callVv C (rm := rmX2_emitWaiting) (As := [.ref (ad (61 + 5 * t)), .int r178]) (rest := []) (id := 34) (ci := 2) (fun r9 σ9 h9 => kX2_emitWaiting l D ad cy X A zs σ178 t r178 ht r9 σ9 h9) gX2_takeToken_X2_emitWaiting rfl rfl rfl hyX2_emitWaiting ⟨Nat.le_of_ble_eq_true rfl, Nat.le_of_ble_eq_true rfl⟩ (by decide) (ceC_34 ad cy _ _ _) rfl rfl rfl (Nat.le_of_ble_eq_true rfl) dX2_takeToken_181 ⟨Nat.zero_le _, Nat.zero_le _⟩ h (fun r181 σ181 h => ?_)
                refine q_aload_n C dX2_takeToken_184 rfl 0 rfl ?_
                refine q_aload_n C dX2_takeToken_185 rfl 0 rfl ?_
                refine q_callVi C (rm := rmX2_isRelation) (As := []) (rest := [.ref (ad 34)]) (id := 34) (ci := 2) (fun r9 σ9 h9 => kX2_isRelation l D ad cy X A zs σ181 r9 σ9 h9) gX2_takeToken_X2_isRelation rfl rfl rfl hyX2_isRelation ⟨Nat.le_of_ble_eq_true rfl, Nat.le_of_ble_eq_true rfl⟩ (by decide) (ceC_34 ad cy _ _ _) rfl rfl rfl (Nat.le_of_ble_eq_true rfl) dX2_takeToken_186 ⟨Nat.zero_le _, Nat.zero_le _⟩ h (fun r186 σ186 h => ?_)
                refine q_join (G := fun (y220 : Int32) => qVv ceC 96 ad cy X A D p l e (headSpec wsX2_takeToken rmX2_takeToken).room s m args below meth c 2 r0 σ0 220 [(0, .ref (ad 34))] [.int y220, .ref (ad 34)] σ186) h (fun y220 h => ?_) (fun j220 hj220 h => ?_)
                · refine q_putZ C (Cn := RX2) (T := TX2) (ty0 := tyX2) (Nf := 10) (ci := 2) (id := 34) (k := 8) (y := 0) tyX2_ok nmX2 nX2_takeToken_X2 (by decide) (ceC_34 ad cy _ _ _) (ceC_34 ad cy _ _ _) rfl (by decide) rfl (by decide +kernel) (Nat.le_of_ble_eq_true rfl) hX2_takeToken_34 dX2_takeToken_220 h (fun σ220 h => ?_)
                  refine q_aload_n C dX2_takeToken_223 rfl 0 rfl ?_
                  refine q_callVv C (rm := rmX2_keepWaiting) (As := []) (rest := []) (id := 34) (ci := 2) (fun r9 σ9 h9 => kX2_keepWaiting l D ad cy X A zs σ220 r9 σ9 h9) gX2_takeToken_X2_keepWaiting rfl rfl rfl hyX2_keepWaiting ⟨Nat.le_of_ble_eq_true rfl, Nat.le_of_ble_eq_true rfl⟩ (by decide) (ceC_34 ad cy _ _ _) rfl rfl rfl (Nat.le_of_ble_eq_true rfl) dX2_takeToken_224 ⟨Nat.zero_le _, Nat.zero_le _⟩ h (fun r224 σ224 h => ?_)
                  exact q_sub [] rfl (hj227 σ224 h)
                refine q_join (G := fun (y215 : Unit) => qVv ceC 96 ad cy X A D p l e (headSpec wsX2_takeToken rmX2_takeToken).room s m args below meth c 2 r0 σ0 215 [(0, .ref (ad 34))] [.ref (ad 34)] σ186) h (fun y215 h => ?_) (fun j215 hj215 h => ?_)
                · refine q_iconst C (v := 1) dX2_takeToken_215 (by decide) ?_
                  refine q_goto C (tgt := 220) dX2_takeToken_216 (by decide) ?_
                  exact q_sub [0] rfl (hj220 (1 : Int32) h)
                refine q_if_ne C (tgt := 215) dX2_takeToken_189 (by decide) h (fun h => ?_) (fun h => ?_)
                · exact q_sub [0] rfl (hj215 () h)
                · refine q_aload_n C dX2_takeToken_192 rfl 0 rfl ?_
                  refine q_get C (Cn := RX2) (T := TX2) (Nf := 10) (ci := 2) (id := 34) (k := 8) (v := .int (σ186.1 34 8)) nX2_takeToken_X2 (by decide) (ceC_34 ad cy _ _ _) rfl (by decide) rfl hX2_takeToken_34 dX2_takeToken_193 ?_
                  refine q_join (G := fun (y219 : Unit) => qVv ceC 96 ad cy X A D p l e (headSpec wsX2_takeToken rmX2_takeToken).room s m args below meth c 2 r0 σ0 219 [(0, .ref (ad 34))] [.ref (ad 34)] σ186) h (fun y219 h => ?_) (fun j219 hj219 h => ?_)
                  · refine q_iconst C (v := 0) dX2_takeToken_219 (by decide) ?_
                    exact q_sub [0] rfl (hj220 (0 : Int32) h)
                  refine q_if_eq C (tgt := 219) dX2_takeToken_196 (by decide) h (fun h => ?_) (fun h => ?_)
                  · exact q_sub [0] rfl (hj219 () h)
                  · refine q_aload_n C dX2_takeToken_199 rfl 0 rfl ?_
                    refine q_get C (Cn := RX2) (T := TX2) (Nf := 10) (ci := 2) (id := 34) (k := 5) (v := .int (σ186.1 34 5)) nX2_takeToken_X2 (by decide) (ceC_34 ad cy _ _ _) rfl (by decide) rfl hX2_takeToken_25 dX2_takeToken_200 ?_
                    refine q_iconst C (v := 5) dX2_takeToken_203 (by decide) ?_
                    refine q_icmp_eq C (tgt := 219) dX2_takeToken_204 (by decide) h (fun h => ?_) (fun h => ?_)
                    · exact q_sub [0] rfl (hj219 () h)
                    · refine q_aload_n C dX2_takeToken_207 rfl 0 rfl ?_
                      refine q_get C (Cn := RX2) (T := TX2) (Nf := 10) (ci := 2) (id := 34) (k := 5) (v := .int (σ186.1 34 5)) nX2_takeToken_X2 (by decide) (ceC_34 ad cy _ _ _) rfl (by decide) rfl hX2_takeToken_25 dX2_takeToken_208 ?_
                      refine q_iconst C (v := 4) dX2_takeToken_211 (by decide) ?_
                      refine q_icmp_eq C (tgt := 219) dX2_takeToken_212 (by decide) h (fun h => ?_) (fun h => ?_)
                      · exact q_sub [0] rfl (hj219 () h)
                      · exact q_sub [0] rfl (hj215 () h)
            · refine q_aload_n C dX2_takeToken_143 rfl 0 rfl ?_
              refine q_aload_n C dX2_takeToken_144 rfl 1 rfl ?_
              refine q_iconst C (v := 4) dX2_takeToken_145 (by decide) ?_
              refine q_callSi C (rm := rmX2_bond) (As := [.int (4 : Int32)]) (rest := [.ref (ad (61 + 5 * t)), .ref (ad 34)]) (fun r9 σ9 h9 => kX2_bond l D ad cy X A zs σ42 (4 : Int32) r9 σ9 h9) gX2_takeToken_X2_bond rfl rfl rfl hyX2_bond ⟨Nat.le_of_ble_eq_true rfl, Nat.le_of_ble_eq_true rfl⟩ rfl rfl (Nat.le_of_ble_eq_true rfl) dX2_takeToken_146 ⟨Nat.zero_le _, Nat.zero_le _⟩ h (fun r146 σ146 h => ?_)
              refine q_callVv C (rm := rmX2_emitWaiting) (As := [.ref (ad (61 + 5 * t)), .int r146]) (rest := []) (id := 34) (ci := 2) (fun r9 σ9 h9 => kX2_emitWaiting l D ad cy X A zs σ146 t r146 ht r9 σ9 h9) gX2_takeToken_X2_emitWaiting rfl rfl rfl hyX2_emitWaiting ⟨Nat.le_of_ble_eq_true rfl, Nat.le_of_ble_eq_true rfl⟩ (by decide) (ceC_34 ad cy _ _ _) rfl rfl rfl (Nat.le_of_ble_eq_true rfl) dX2_takeToken_149 ⟨Nat.zero_le _, Nat.zero_le _⟩ h (fun r149 σ149 h => ?_)
              refine q_aload_n C dX2_takeToken_152 rfl 0 rfl ?_
              refine q_iconst C (v := 0) dX2_takeToken_153 (by decide) ?_
              refine q_putZ C (Cn := RX2) (T := TX2) (ty0 := tyX2) (Nf := 10) (ci := 2) (id := 34) (k := 8) (y := 0) tyX2_ok nmX2 nX2_takeToken_X2 (by decide) (ceC_34 ad cy _ _ _) (ceC_34 ad cy _ _ _) rfl (by decide) rfl (by decide +kernel) (Nat.le_of_ble_eq_true rfl) hX2_takeToken_34 dX2_takeToken_154 h (fun σ154 h => ?_)
              refine q_aload_n C dX2_takeToken_157 rfl 1 rfl ?_
              refine q_callVv C (rm := rmX3_closeRule) (As := []) (rest := []) (id := (61 + 5 * t)) (ci := 3) (fun r9 σ9 h9 => kX3_closeRule l D ad cy X A zs σ154 t ht r9 σ9 h9) gX2_takeToken_X3_closeRule rfl rfl rfl hyX3_closeRule ⟨Nat.le_of_ble_eq_true rfl, Nat.le_of_ble_eq_true rfl⟩ (by omega) (ceC_t0 ad cy _ _ _ t) rfl rfl rfl (Nat.le_of_ble_eq_true rfl) dX2_takeToken_158 ⟨Nat.zero_le _, Nat.zero_le _⟩ h (fun r158 σ158 h => ?_)
              refine q_goto C (tgt := 227) dX2_takeToken_161 (by decide) ?_
              exact q_sub [] rfl (hj227 σ158 h)
          · refine q_aload_n C dX2_takeToken_98 rfl 0 rfl ?_
            refine q_dup C dX2_takeToken_99 rfl ?_
            refine q_get C (Cn := RX2) (T := TX2) (Nf := 10) (ci := 2) (id := 34) (k := 7) (v := .int (σ42.1 34 7)) nX2_takeToken_X2 (by decide) (ceC_34 ad cy _ _ _) rfl (by decide) rfl hX2_takeToken_31 dX2_takeToken_100 ?_
            refine q_iconst C (v := 1) dX2_takeToken_103 (by decide) ?_
            refine q_isub C dX2_takeToken_104 ?_
            refine q_put C (Cn := RX2) (T := TX2) (ty0 := tyX2) (Nf := 10) (ci := 2) (id := 34) (k := 7) (y := 0) tyX2_ok nmX2 nX2_takeToken_X2 (by decide) (ceC_34 ad cy _ _ _) (ceC_34 ad cy _ _ _) rfl (by decide) rfl (by decide +kernel) (Nat.le_of_ble_eq_true rfl) hX2_takeToken_31 dX2_takeToken_105 h (fun σ105 h => ?_)
            refine q_aload_n C dX2_takeToken_108 rfl 0 rfl ?_
            refine q_aload_n C dX2_takeToken_109 rfl 1 rfl ?_
            refine q_iconst C (v := 4) dX2_takeToken_110 (by decide) ?_
            refine q_callSi C (rm := rmX2_bond) (As := [.int (4 : Int32)]) (rest := [.ref (ad (61 + 5 * t)), .ref (ad 34)]) (fun r9 σ9 h9 => kX2_bond l D ad cy X A zs σ105 (4 : Int32) r9 σ9 h9) gX2_takeToken_X2_bond rfl rfl rfl hyX2_bond ⟨Nat.le_of_ble_eq_true rfl, Nat.le_of_ble_eq_true rfl⟩ rfl rfl (Nat.le_of_ble_eq_true rfl) dX2_takeToken_111 ⟨Nat.zero_le _, Nat.zero_le _⟩ h (fun r111 σ111 h => ?_)
            refine q_callVv C (rm := rmX2_emitWaiting) (As := [.ref (ad (61 + 5 * t)), .int r111]) (rest := []) (id := 34) (ci := 2) (fun r9 σ9 h9 => kX2_emitWaiting l D ad cy X A zs σ111 t r111 ht r9 σ9 h9) gX2_takeToken_X2_emitWaiting rfl rfl rfl hyX2_emitWaiting ⟨Nat.le_of_ble_eq_true rfl, Nat.le_of_ble_eq_true rfl⟩ (by decide) (ceC_34 ad cy _ _ _) rfl rfl rfl (Nat.le_of_ble_eq_true rfl) dX2_takeToken_114 ⟨Nat.zero_le _, Nat.zero_le _⟩ h (fun r114 σ114 h => ?_)
            refine q_aload_n C dX2_takeToken_117 rfl 0 rfl ?_
            refine q_aload_n C dX2_takeToken_118 rfl 0 rfl ?_
            refine q_get C (Cn := RX2) (T := TX2) (Nf := 10) (ci := 2) (id := 34) (k := 1) (v := .int (σ114.1 34 1)) nX2_takeToken_X2 (by decide) (ceC_34 ad cy _ _ _) rfl (by decide) rfl hX2_takeToken_15 dX2_takeToken_119 ?_
            refine q_iconst C (v := 1) dX2_takeToken_122 (by decide) ?_
            refine q_isub C dX2_takeToken_123 ?_
            refine q_iconst C (v := 0) dX2_takeToken_124 (by decide) ?_
            refine q_mmax C hX2_takeToken_106 hX2_takeToken_maxs hX2_takeToken_mi hX2_takeToken_maxc (Nat.le_of_ble_eq_true rfl) (Nat.le_of_ble_eq_true rfl) ⟨Nat.zero_le _, Nat.zero_le _⟩ dX2_takeToken_125 ?_
            refine q_put C (Cn := RX2) (T := TX2) (ty0 := tyX2) (Nf := 10) (ci := 2) (id := 34) (k := 1) (y := 0) tyX2_ok nmX2 nX2_takeToken_X2 (by decide) (ceC_34 ad cy _ _ _) (ceC_34 ad cy _ _ _) rfl (by decide) rfl (by decide +kernel) (Nat.le_of_ble_eq_true rfl) hX2_takeToken_15 dX2_takeToken_128 h (fun σ128 h => ?_)
            refine q_goto C (tgt := 227) dX2_takeToken_131 (by decide) ?_
            exact q_sub [] rfl (hj227 σ128 h)
        · refine q_aload_n C dX2_takeToken_72 rfl 0 rfl ?_
          refine q_dup C dX2_takeToken_73 rfl ?_
          refine q_get C (Cn := RX2) (T := TX2) (Nf := 10) (ci := 2) (id := 34) (k := 7) (v := .int (σ42.1 34 7)) nX2_takeToken_X2 (by decide) (ceC_34 ad cy _ _ _) rfl (by decide) rfl hX2_takeToken_31 dX2_takeToken_74 ?_
          refine q_iconst C (v := 1) dX2_takeToken_77 (by decide) ?_
          refine q_iadd C dX2_takeToken_78 ?_
          refine q_put C (Cn := RX2) (T := TX2) (ty0 := tyX2) (Nf := 10) (ci := 2) (id := 34) (k := 7) (y := 0) tyX2_ok nmX2 nX2_takeToken_X2 (by decide) (ceC_34 ad cy _ _ _) (ceC_34 ad cy _ _ _) rfl (by decide) rfl (by decide +kernel) (Nat.le_of_ble_eq_true rfl) hX2_takeToken_31 dX2_takeToken_79 h (fun σ79 h => ?_)
          refine q_aload_n C dX2_takeToken_82 rfl 0 rfl ?_
          refine q_callVv C (rm := rmX2_keepWaiting) (As := []) (rest := []) (id := 34) (ci := 2) (fun r9 σ9 h9 => kX2_keepWaiting l D ad cy X A zs σ79 r9 σ9 h9) gX2_takeToken_X2_keepWaiting rfl rfl rfl hyX2_keepWaiting ⟨Nat.le_of_ble_eq_true rfl, Nat.le_of_ble_eq_true rfl⟩ (by decide) (ceC_34 ad cy _ _ _) rfl rfl rfl (Nat.le_of_ble_eq_true rfl) dX2_takeToken_83 ⟨Nat.zero_le _, Nat.zero_le _⟩ h (fun r83 σ83 h => ?_)
          refine q_goto C (tgt := 227) dX2_takeToken_86 (by decide) ?_
          exact q_sub [] rfl (hj227 σ83 h)
      · refine q_aload_n C dX2_takeToken_48 rfl 1 rfl ?_
        refine q_sipush C (v := 10000) dX2_takeToken_49 (by decide) ?_
        refine q_aload_n C dX2_takeToken_52 rfl 0 rfl ?_
        refine q_get C (Cn := RX2) (T := TX2) (Nf := 10) (ci := 2) (id := 34) (k := 5) (v := .int (σ42.1 34 5)) nX2_takeToken_X2 (by decide) (ceC_34 ad cy _ _ _) rfl (by decide) rfl hX2_takeToken_25 dX2_takeToken_53 ?_
        refine q_iadd C dX2_takeToken_56 ?_
        refine q_callVv C (rm := rmX3_addCode) (As := [.int ((10000 : Int32) + (σ42.1 34 5))]) (rest := []) (id := (61 + 5 * t)) (ci := 3) (fun r9 σ9 h9 => kX3_addCode l D ad cy X A zs σ42 t ((10000 : Int32) + (σ42.1 34 5)) ht r9 σ9 h9) gX2_takeToken_X3_addCode rfl rfl rfl hyX3_addCode ⟨Nat.le_of_ble_eq_true rfl, Nat.le_of_ble_eq_true rfl⟩ (by omega) (ceC_t0 ad cy _ _ _ t) rfl rfl rfl (Nat.le_of_ble_eq_true rfl) dX2_takeToken_57 ⟨Nat.zero_le _, Nat.zero_le _⟩ h (fun r57 σ57 h => ?_)
        refine q_goto C (tgt := 227) dX2_takeToken_60 (by decide) ?_
        exact q_sub [] rfl (hj227 σ57 h)
    · refine q_aload_n C dX2_takeToken_27 rfl 1 rfl ?_
      refine q_aload_n C dX2_takeToken_28 rfl 0 rfl ?_
      refine q_get C (Cn := RX2) (T := TX2) (Nf := 10) (ci := 2) (id := 34) (k := 6) (v := .int (σ1.1 34 6)) nX2_takeToken_X2 (by decide) (ceC_34 ad cy _ _ _) rfl (by decide) rfl hX2_takeToken_28 dX2_takeToken_29 ?_
      refine q_callVv C (rm := rmX3_addCode) (As := [.int (σ1.1 34 6)]) (rest := []) (id := (61 + 5 * t)) (ci := 3) (fun r9 σ9 h9 => kX3_addCode l D ad cy X A zs σ1 t (σ1.1 34 6) ht r9 σ9 h9) gX2_takeToken_X3_addCode rfl rfl rfl hyX3_addCode ⟨Nat.le_of_ble_eq_true rfl, Nat.le_of_ble_eq_true rfl⟩ (by omega) (ceC_t0 ad cy _ _ _ t) rfl rfl rfl (Nat.le_of_ble_eq_true rfl) dX2_takeToken_32 ⟨Nat.zero_le _, Nat.zero_le _⟩ h (fun r32 σ32 h => ?_)
      refine q_goto C (tgt := 227) dX2_takeToken_35 (by decide) ?_
      exact q_sub [] rfl (hj227 σ32 h)
  · refine q_aload_n C dX2_takeToken_7 rfl 1 rfl ?_
    refine q_aload_n C dX2_takeToken_8 rfl 0 rfl ?_
    refine q_get C (Cn := RX2) (T := TX2) (Nf := 10) (ci := 2) (id := 34) (k := 5) (v := .int (σ1.1 34 5)) nX2_takeToken_X2 (by decide) (ceC_34 ad cy _ _ _) rfl (by decide) rfl hX2_takeToken_25 dX2_takeToken_9 ?_
    refine q_callVv C (rm := rmX3_openRule) (As := [.int (σ1.1 34 5)]) (rest := []) (id := (61 + 5 * t)) (ci := 3) (fun r9 σ9 h9 => kX3_openRule l D ad cy X A zs σ1 t (σ1.1 34 5) ht r9 σ9 h9) gX2_takeToken_X3_openRule rfl rfl rfl hyX3_openRule ⟨Nat.le_of_ble_eq_true rfl, Nat.le_of_ble_eq_true rfl⟩ (by omega) (ceC_t0 ad cy _ _ _ t) rfl rfl rfl (Nat.le_of_ble_eq_true rfl) dX2_takeToken_12 ⟨Nat.zero_le _, Nat.zero_le _⟩ h (fun r12 σ12 h => ?_)
    refine q_goto C (tgt := 227) dX2_takeToken_15 (by decide) ?_
    exact q_sub [] rfl (hj227 σ12 h)
abbrev rmX2_readInto : Room := { frames := 7, cells := 0, slots := 0, locals := 150 }
theorem hyX2_readInto : yX2_readInto.cls = RX2 ∧ yX2_readInto.cls ≠ "java/lang/invoke/MethodHandle" ∧ yX2_readInto.cls ≠ "java/lang/invoke/VarHandle" ∧ (parseMethodDescriptor yX2_readInto.desc).map (fun d => d.parameters.length) = some 2 := by decide +kernel
theorem nX2_readInto_X2 : ∀ w ∈ u_ws RX2 TX2 10, w ∈ wsX2_readInto := fun w h => List.mem_cons_of_mem _ (List.mem_append_left _ (List.mem_append_right _ h))
theorem hX2_readInto_41 : Cond.fieldLink RX2 41 (TX2 2).1 (TX2 2).2.1 (TX2 2).2.2.1 ∈ wsX2_readInto := by decide +kernel
theorem hX2_readInto_45 : Cond.methodLink RX2 45 Lib.Math.min.name ∈ wsX2_readInto := by decide +kernel
theorem hX2_readInto_mins : Cond.static Lib.Math.min.name ∈ wsX2_readInto := by decide +kernel
theorem hX2_readInto_mi : Cond.initialized "java/lang/Math" ∈ wsX2_readInto := by decide +kernel
theorem hX2_readInto_minc : Cond.code Lib.Math.min.name Lib.Math.min.code 2 (some .int) ∈ wsX2_readInto := by decide +kernel
theorem hX2_readInto_19 : Cond.fieldLink RX2 19 (TX2 3).1 (TX2 3).2.1 (TX2 3).2.2.1 ∈ wsX2_readInto := by decide +kernel
theorem hX2_readInto_22 : Cond.fieldLink RX2 22 (TX2 4).1 (TX2 4).2.1 (TX2 4).2.2.1 ∈ wsX2_readInto := by decide +kernel
theorem hX2_readInto_31 : Cond.fieldLink RX2 31 (TX2 7).1 (TX2 7).2.1 (TX2 7).2.2.1 ∈ wsX2_readInto := by decide +kernel
theorem hX2_readInto_34 : Cond.fieldLink RX2 34 (TX2 8).1 (TX2 8).2.1 (TX2 8).2.2.1 ∈ wsX2_readInto := by decide +kernel
theorem hX2_readInto_15 : Cond.fieldLink RX2 15 (TX2 1).1 (TX2 1).2.1 (TX2 1).2.2.1 ∈ wsX2_readInto := by decide +kernel
theorem hX2_readInto_25 : Cond.fieldLink RX2 25 (TX2 5).1 (TX2 5).2.1 (TX2 5).2.2.1 ∈ wsX2_readInto := by decide +kernel
def fX2_readInto_L (t : Nat) (a2 : Int32) : Nat → Int32 → Int32 → St → Option (Int32 × St)
  | 0, _, _, _ => none
  | n + 1, v3, v4, σ => if (401 : Int32) < v4 then (some ((2 : Int32), σ)) else (qcall (fX2_scanToken σ) (fun _ σ51 => qlet (fun (y69 : Unit) => (qcall (fX2_stateBehind σ51 v3) (fun r71 σ71 => if r71 = (-1 : Int32) then (some ((1 : Int32), σ71)) else (qlet (fun (y100 : St) => (some ((2 : Int32), y100))) (fun j100 => (if (400 : Int32) < v4 then (j100 σ71) else (qcall (fX2_lacksRoom σ71 t) (fun r94 σ94 => if r94 = (0 : Int32) then (qcall (fX2_takeToken σ94 t) (fun _ σ104 => qlet (v4 + (1 : Int32)) (fun x110 => fX2_readInto_L t a2 n r71 x110 σ104))) else (j100 σ94))))))))) (fun j69 => (if (σ51.1 34 5) = (25 : Int32) then (if v3 = (0 : Int32) then (some ((0 : Int32), σ51)) else (j69 ())) else (j69 ())))))
def fX2_readInto (σ : St) (t : Nat) (a2 : Int32) : Option (Int32 × St) := qlet (sI σ 34 3 (if (2000 : Int32) < a2 then (2000 : Int32) else a2)) (fun σ10 => qlet (sI σ10 34 4 (0 : Int32)) (fun σ15 => qlet (sI σ15 34 7 (0 : Int32)) (fun σ20 => qzz (0 : Int32) (qlet (sI σ20 34 8 (0 : Int32)) (fun σ25 => qlet (sI σ25 34 1 (0 : Int32)) (fun σ30 => qcall (fX3_clearRules σ30 t) (fun _ σ34 => fX2_readInto_L t a2 100000 (0 : Int32) (1 : Int32) σ34)))))))
set_option maxHeartbeats 4000000 in
set_option maxRecDepth 100000 in
theorem kX2_readInto_L {ad : Nat → Nat} {cy : Nat → ClassId} {X : va_W} {A : Nat → Prop} {D : va_G} {zs : Nat × Nat × Option Nat} {p : Program} {l : Launch} {e : Env} {s : State} {m : MethodId} {args : Array Value} {below : List Frame} {meth : Method} {c : Code} {t : Nat} {a2 : Int32} (C : qC ceC 96 ad cy X A D zs cX2_readInto 6 RX2 wsX2_readInto p s m args meth c (some .int)) (r0 : Int32) (σ0 : St) (n : Nat) (ht : t < 7) : (∀ (v3 : Int32) (v4 : Int32) (σ : St), fX2_readInto_L t a2 n v3 v4 σ = some (r0, σ0) → qVi ceC 96 ad cy X A D p l e (headSpec wsX2_readInto rmX2_readInto).room s m args below meth c 6 r0 σ0 42 [(0, .ref (ad 34)), (1, .ref (ad (61 + 5 * t))), (3, .int v3), (4, .int v4)] [] σ) := by
  induction n with
  | zero =>
    intro v3 v4 σ h; cases h
  | succ n ih =>
    intro v3 v4 σ h
    rw [fX2_readInto_L] at h
    refine q_iload C dX2_readInto_42 3 rfl ?_
    refine q_sipush C (v := 401) dX2_readInto_44 (by decide) ?_
    refine q_icmp_gt C (tgt := 116) dX2_readInto_47 (by decide) h (fun h => ?_) (fun h => ?_)
    · refine q_iconst C (v := 2) dX2_readInto_116 (by decide) ?_
      exact q_iret C rfl dX2_readInto_117 h
    · refine q_aload_n C dX2_readInto_50 rfl 0 rfl ?_
      refine q_callVv C (rm := rmX2_scanToken) (As := []) (rest := []) (id := 34) (ci := 2) (fun r9 σ9 h9 => kX2_scanToken l D ad cy X A zs σ r9 σ9 h9) gX2_readInto_X2_scanToken rfl rfl rfl hyX2_scanToken ⟨Nat.le_of_ble_eq_true rfl, Nat.le_of_ble_eq_true rfl⟩ (by decide) (ceC_34 ad cy _ _ _) rfl rfl rfl (Nat.le_of_ble_eq_true rfl) dX2_readInto_51 ⟨Nat.zero_le _, Nat.zero_le _⟩ h (fun r51 σ51 h => ?_)
      refine q_aload_n C dX2_readInto_54 rfl 0 rfl ?_
      refine q_get C (Cn := RX2) (T := TX2) (Nf := 10) (ci := 2) (id := 34) (k := 5) (v := .int (σ51.1 34 5)) nX2_readInto_X2 (by decide) (ceC_34 ad cy _ _ _) rfl (by decide) rfl hX2_readInto_25 dX2_readInto_55 ?_
      refine q_bipush C (v := 25) dX2_readInto_58 (by decide) ?_
      refine q_join (G := fun (y69 : Unit) => qVi ceC 96 ad cy X A D p l e (headSpec wsX2_readInto rmX2_readInto).room s m args below meth c 6 r0 σ0 69 [(0, .ref (ad 34)), (1, .ref (ad (61 + 5 * t))), (3, .int v3), (4, .int v4)] [] σ51) h (fun y69 h => ?_) (fun j69 hj69 h => ?_)
      · refine q_aload_n C dX2_readInto_69 rfl 0 rfl ?_
        refine q_iload_n C dX2_readInto_70 rfl 2 rfl ?_
        refine q_callVi C (rm := rmX2_stateBehind) (As := [.int v3]) (rest := []) (id := 34) (ci := 2) (fun r9 σ9 h9 => kX2_stateBehind l D ad cy X A zs σ51 v3 r9 σ9 h9) gX2_readInto_X2_stateBehind rfl rfl rfl hyX2_stateBehind ⟨Nat.le_of_ble_eq_true rfl, Nat.le_of_ble_eq_true rfl⟩ (by decide) (ceC_34 ad cy _ _ _) rfl rfl rfl (Nat.le_of_ble_eq_true rfl) dX2_readInto_71 ⟨Nat.zero_le _, Nat.zero_le _⟩ h (fun r71 σ71 h => ?_)
        refine q_istore C dX2_readInto_74 (by decide) (lv' := [(0, .ref (ad 34)), (1, .ref (ad (61 + 5 * t))), (3, .int v3), (4, .int v4), (5, .int r71)]) rfl ?_
        refine q_iload C dX2_readInto_76 4 rfl ?_
        refine q_iconst C (v := -1) dX2_readInto_78 (by decide) ?_
        refine q_icmp_ne C (tgt := 84) dX2_readInto_79 (by decide) h (fun h => ?_) (fun h => ?_)
        · refine q_iload C dX2_readInto_84 3 rfl ?_
          refine q_sipush C (v := 400) dX2_readInto_86 (by decide) ?_
          refine q_join (G := fun (y100 : St) => qVi ceC 96 ad cy X A D p l e (headSpec wsX2_readInto rmX2_readInto).room s m args below meth c 6 r0 σ0 100 [] [] y100) h (fun y100 h => ?_) (fun j100 hj100 h => ?_)
          · refine q_iconst C (v := 2) dX2_readInto_100 (by decide) ?_
            exact q_iret C rfl dX2_readInto_101 h
          refine q_icmp_gt C (tgt := 100) dX2_readInto_89 (by decide) h (fun h => ?_) (fun h => ?_)
          · exact q_sub [] rfl (hj100 σ71 h)
          · refine q_aload_n C dX2_readInto_92 rfl 0 rfl ?_
            refine q_aload_n C dX2_readInto_93 rfl 1 rfl ?_
            refine q_callVi C (rm := rmX2_lacksRoom) (As := [.ref (ad (61 + 5 * t))]) (rest := []) (id := 34) (ci := 2) (fun r9 σ9 h9 => kX2_lacksRoom l D ad cy X A zs σ71 t ht r9 σ9 h9) gX2_readInto_X2_lacksRoom rfl rfl rfl hyX2_lacksRoom ⟨Nat.le_of_ble_eq_true rfl, Nat.le_of_ble_eq_true rfl⟩ (by decide) (ceC_34 ad cy _ _ _) rfl rfl rfl (Nat.le_of_ble_eq_true rfl) dX2_readInto_94 ⟨Nat.zero_le _, Nat.zero_le _⟩ h (fun r94 σ94 h => ?_)
            refine q_if_eq C (tgt := 102) dX2_readInto_97 (by decide) h (fun h => ?_) (fun h => ?_)
            · refine q_aload_n C dX2_readInto_102 rfl 0 rfl ?_
              refine q_aload_n C dX2_readInto_103 rfl 1 rfl ?_
              refine q_callVv C (rm := rmX2_takeToken) (As := [.ref (ad (61 + 5 * t))]) (rest := []) (id := 34) (ci := 2) (fun r9 σ9 h9 => kX2_takeToken l D ad cy X A zs σ94 t ht r9 σ9 h9) gX2_readInto_X2_takeToken rfl rfl rfl hyX2_takeToken ⟨Nat.le_of_ble_eq_true rfl, Nat.le_of_ble_eq_true rfl⟩ (by decide) (ceC_34 ad cy _ _ _) rfl rfl rfl (Nat.le_of_ble_eq_true rfl) dX2_readInto_104 ⟨Nat.zero_le _, Nat.zero_le _⟩ h (fun r104 σ104 h => ?_)
              refine q_iload C dX2_readInto_107 4 rfl ?_
              refine q_istore_n C dX2_readInto_109 rfl (by decide) (lv' := [(0, .ref (ad 34)), (1, .ref (ad (61 + 5 * t))), (3, .int r71), (4, .int v4), (5, .int r71)]) rfl ?_
              refine q_iincL C dX2_readInto_110 3 rfl (by decide) (nv := 1) (by decide) h (lw := fun x110 => [(0, .ref (ad 34)), (1, .ref (ad (61 + 5 * t))), (3, .int r71), (4, .int x110), (5, .int r71)]) (fun _ => rfl) (fun x110 h => ?_)
              refine q_goto C (tgt := 42) dX2_readInto_113 (by decide) ?_
              exact q_sub [0, 1, 2, 3] rfl (ih r71 x110 σ104 h)
            · exact q_sub [] rfl (hj100 σ94 h)
        · refine q_iconst C (v := 1) dX2_readInto_82 (by decide) ?_
          exact q_iret C rfl dX2_readInto_83 h
      refine q_icmp_ne C (tgt := 69) dX2_readInto_60 (by decide) h (fun h => ?_) (fun h => ?_)
      · exact q_sub [0, 1, 2, 3] rfl (hj69 () h)
      · refine q_iload_n C dX2_readInto_63 rfl 2 rfl ?_
        refine q_if_ne C (tgt := 69) dX2_readInto_64 (by decide) h (fun h => ?_) (fun h => ?_)
        · exact q_sub [0, 1, 2, 3] rfl (hj69 () h)
        · refine q_iconst C (v := 0) dX2_readInto_67 (by decide) ?_
          exact q_iret C rfl dX2_readInto_68 h
set_option maxHeartbeats 4000000 in
set_option maxRecDepth 100000 in
theorem kX2_readInto (l : Launch) (D : va_G) (ad : Nat → Nat) (cy : Nat → ClassId) (X : va_W) (A : Nat → Prop) (zs : Nat × Nat × Option Nat) (σ : St) (t : Nat) (a2 : Int32) (ht : t < 7) (r0 : Int32) (σ0 : St) (h : fX2_readInto σ t a2 = some (r0, σ0)) : Met l yX2_readInto wsX2_readInto rmX2_readInto (qPc ceC 96 ad cy X A D zs [.ref (ad 34), .ref (ad (61 + 5 * t)), .int a2] σ) (qQi ceC 96 ad cy X A D r0 σ0) 0 0 A := by
  refine Met.ofW (cc := cX2_readInto) (maxL := 6) (ret := (some .int)) (by decide) rfl ?_
  intro p e s m args below meth c s₁ B hml hv
  obtain ⟨ha, hP, hK, hE, hD⟩ := hv
  have C : qC ceC 96 ad cy X A D zs cX2_readInto 6 RX2 wsX2_readInto p s m args meth c (some .int) := ⟨B.exec, B.bytes, hml, findClass_of_methodNamed B.named, atoms_spec (ws := wsX2_readInto) B.pre, hK, hD, B.returns, B.notSynchronized, hE⟩
  rw [show entryFrame m args 6 = entryFrame m ([.ref (ad 34), .ref (ad (61 + 5 * t)), .int a2] : List Value).toArray 6 by rw [ha]]
  refine q_entry (A := A) (Nat.le_of_ble_eq_true rfl) hP (lv := [(0, .ref (ad 34)), (1, .ref (ad (61 + 5 * t))), (2, .int a2)]) rfl ?_
  unfold fX2_readInto at h
  refine q_aload_n C dX2_readInto_0 rfl 0 rfl ?_
  refine q_iload_n C dX2_readInto_1 rfl 2 rfl ?_
  refine q_aload_n C dX2_readInto_2 rfl 0 rfl ?_
  refine q_get C (Cn := RX2) (T := TX2) (Nf := 10) (ci := 2) (id := 34) (k := 2) (v := .ref (ad 1)) nX2_readInto_X2 (by decide) (ceC_34 ad cy _ _ _) rfl (by decide) rfl hX2_readInto_41 dX2_readInto_3 ?_
  refine q_alen C (id := 1) (t0 := 0) (v := 2000) (by decide) (ceC_1 ad cy _ _ _) rfl (by decide) dX2_readInto_6 ?_
  refine q_mmin C hX2_readInto_45 hX2_readInto_mins hX2_readInto_mi hX2_readInto_minc (Nat.le_of_ble_eq_true rfl) (Nat.le_of_ble_eq_true rfl) ⟨Nat.zero_le _, Nat.zero_le _⟩ dX2_readInto_7 ?_
  refine q_put C (Cn := RX2) (T := TX2) (ty0 := tyX2) (Nf := 10) (ci := 2) (id := 34) (k := 3) (y := 0) tyX2_ok nmX2 nX2_readInto_X2 (by decide) (ceC_34 ad cy _ _ _) (ceC_34 ad cy _ _ _) rfl (by decide) rfl (by decide +kernel) (Nat.le_of_ble_eq_true rfl) hX2_readInto_19 dX2_readInto_10 h (fun σ10 h => ?_)
  refine q_aload_n C dX2_readInto_13 rfl 0 rfl ?_
  refine q_iconst C (v := 0) dX2_readInto_14 (by decide) ?_
  refine q_put C (Cn := RX2) (T := TX2) (ty0 := tyX2) (Nf := 10) (ci := 2) (id := 34) (k := 4) (y := 0) tyX2_ok nmX2 nX2_readInto_X2 (by decide) (ceC_34 ad cy _ _ _) (ceC_34 ad cy _ _ _) rfl (by decide) rfl (by decide +kernel) (Nat.le_of_ble_eq_true rfl) hX2_readInto_22 dX2_readInto_15 h (fun σ15 h => ?_)
  refine q_aload_n C dX2_readInto_18 rfl 0 rfl ?_
  refine q_iconst C (v := 0) dX2_readInto_19 (by decide) ?_
  refine q_put C (Cn := RX2) (T := TX2) (ty0 := tyX2) (Nf := 10) (ci := 2) (id := 34) (k := 7) (y := 0) tyX2_ok nmX2 nX2_readInto_X2 (by decide) (ceC_34 ad cy _ _ _) (ceC_34 ad cy _ _ _) rfl (by decide) rfl (by decide +kernel) (Nat.le_of_ble_eq_true rfl) hX2_readInto_31 dX2_readInto_20 h (fun σ20 h => ?_)
  refine q_aload_n C dX2_readInto_23 rfl 0 rfl ?_
  refine q_iconst C (v := 0) dX2_readInto_24 (by decide) ?_
  refine q_putZ C (Cn := RX2) (T := TX2) (ty0 := tyX2) (Nf := 10) (ci := 2) (id := 34) (k := 8) (y := 0) tyX2_ok nmX2 nX2_readInto_X2 (by decide) (ceC_34 ad cy _ _ _) (ceC_34 ad cy _ _ _) rfl (by decide) rfl (by decide +kernel) (Nat.le_of_ble_eq_true rfl) hX2_readInto_34 dX2_readInto_25 h (fun σ25 h => ?_)
  refine q_aload_n C dX2_readInto_28 rfl 0 rfl ?_
  refine q_iconst C (v := 0) dX2_readInto_29 (by decide) ?_
  refine q_put C (Cn := RX2) (T := TX2) (ty0 := tyX2) (Nf := 10) (ci := 2) (id := 34) (k := 1) (y := 0) tyX2_ok nmX2 nX2_readInto_X2 (by decide) (ceC_34 ad cy _ _ _) (ceC_34 ad cy _ _ _) rfl (by decide) rfl (by decide +kernel) (Nat.le_of_ble_eq_true rfl) hX2_readInto_15 dX2_readInto_30 h (fun σ30 h => ?_)
  refine q_aload_n C dX2_readInto_33 rfl 1 rfl ?_
  refine q_callVv C (rm := rmX3_clearRules) (As := []) (rest := []) (id := (61 + 5 * t)) (ci := 3) (fun r9 σ9 h9 => kX3_clearRules l D ad cy X A zs σ30 t ht r9 σ9 h9) gX2_readInto_X3_clearRules rfl rfl rfl hyX3_clearRules ⟨Nat.le_of_ble_eq_true rfl, Nat.le_of_ble_eq_true rfl⟩ (by omega) (ceC_t0 ad cy _ _ _ t) rfl rfl rfl (Nat.le_of_ble_eq_true rfl) dX2_readInto_34 ⟨Nat.zero_le _, Nat.zero_le _⟩ h (fun r34 σ34 h => ?_)
  refine q_iconst C (v := 0) dX2_readInto_37 (by decide) ?_
  refine q_istore_n C dX2_readInto_38 rfl (by decide) (lv' := [(0, .ref (ad 34)), (1, .ref (ad (61 + 5 * t))), (2, .int a2), (3, .int (0 : Int32))]) rfl ?_
  refine q_iconst C (v := 1) dX2_readInto_39 (by decide) ?_
  refine q_istore C dX2_readInto_40 (by decide) (lv' := [(0, .ref (ad 34)), (1, .ref (ad (61 + 5 * t))), (2, .int a2), (3, .int (0 : Int32)), (4, .int (1 : Int32))]) rfl ?_
  exact q_sub [0, 1, 3, 4] rfl ((kX2_readInto_L C r0 σ0 100000 ht) (0 : Int32) (1 : Int32) σ34 h)
