abbrev rmJ7_fill_53178 : Room := { frames := 0, cells := 0, slots := 0, locals := 0 }
theorem hyJ7_fill_53178 : yJ7_fill_53178.cls ≠ "java/lang/invoke/MethodHandle" ∧ yJ7_fill_53178.cls ≠ "java/lang/invoke/VarHandle" ∧ (parseMethodDescriptor yJ7_fill_53178.desc).map (fun d => d.parameters.length) = some 2 := by decide +kernel
abbrev rmJ7_fill_031fb : Room := { frames := 0, cells := 0, slots := 0, locals := 0 }
theorem hyJ7_fill_031fb : yJ7_fill_031fb.cls ≠ "java/lang/invoke/MethodHandle" ∧ yJ7_fill_031fb.cls ≠ "java/lang/invoke/VarHandle" ∧ (parseMethodDescriptor yJ7_fill_031fb.desc).map (fun d => d.parameters.length) = some 2 := by decide +kernel
abbrev rmJ0_length_8abf5 : Room := { frames := 1, cells := 0, slots := 0, locals := 20 }
theorem hyJ0_length_8abf5 : yJ0_length_8abf5.cls = RJ0 ∧ yJ0_length_8abf5.cls ≠ "java/lang/invoke/MethodHandle" ∧ yJ0_length_8abf5.cls ≠ "java/lang/invoke/VarHandle" ∧ (parseMethodDescriptor yJ0_length_8abf5.desc).map (fun d => d.parameters.length) = some 0 := by decide +kernel
abbrev rmJ0_coder_7d493 : Room := { frames := 0, cells := 0, slots := 0, locals := 0 }
theorem hyJ0_coder_7d493 : yJ0_coder_7d493.cls = RJ0 ∧ yJ0_coder_7d493.cls ≠ "java/lang/invoke/MethodHandle" ∧ yJ0_coder_7d493.cls ≠ "java/lang/invoke/VarHandle" ∧ (parseMethodDescriptor yJ0_coder_7d493.desc).map (fun d => d.parameters.length) = some 0 := by decide +kernel
abbrev rmJ0_charAt_5068e : Room := { frames := 3, cells := 0, slots := 0, locals := 64 }
theorem hyJ0_charAt_5068e : yJ0_charAt_5068e.cls = RJ0 ∧ yJ0_charAt_5068e.cls ≠ "java/lang/invoke/MethodHandle" ∧ yJ0_charAt_5068e.cls ≠ "java/lang/invoke/VarHandle" ∧ (parseMethodDescriptor yJ0_charAt_5068e.desc).map (fun d => d.parameters.length) = some 1 := by decide +kernel
abbrev rmJ0_isLatin1_aae02 : Room := { frames := 0, cells := 0, slots := 0, locals := 0 }
theorem hyJ0_isLatin1_aae02 : yJ0_isLatin1_aae02.cls = RJ0 ∧ yJ0_isLatin1_aae02.cls ≠ "java/lang/invoke/MethodHandle" ∧ yJ0_isLatin1_aae02.cls ≠ "java/lang/invoke/VarHandle" ∧ (parseMethodDescriptor yJ0_isLatin1_aae02.desc).map (fun d => d.parameters.length) = some 0 := by decide +kernel
abbrev rmJ1_charAt_3b067 : Room := { frames := 2, cells := 0, slots := 0, locals := 43 }
theorem hyJ1_charAt_3b067 : yJ1_charAt_3b067.cls ≠ "java/lang/invoke/MethodHandle" ∧ yJ1_charAt_3b067.cls ≠ "java/lang/invoke/VarHandle" ∧ (parseMethodDescriptor yJ1_charAt_3b067.desc).map (fun d => d.parameters.length) = some 2 := by decide +kernel
abbrev rmJ0_checkIndex_df160 : Room := { frames := 1, cells := 0, slots := 0, locals := 22 }
theorem hyJ0_checkIndex_df160 : yJ0_checkIndex_df160.cls ≠ "java/lang/invoke/MethodHandle" ∧ yJ0_checkIndex_df160.cls ≠ "java/lang/invoke/VarHandle" ∧ (parseMethodDescriptor yJ0_checkIndex_df160.desc).map (fun d => d.parameters.length) = some 2 := by decide +kernel
abbrev rmJ3_checkIndex_8e157 : Room := { frames := 0, cells := 0, slots := 0, locals := 0 }
theorem hyJ3_checkIndex_8e157 : yJ3_checkIndex_8e157.cls ≠ "java/lang/invoke/MethodHandle" ∧ yJ3_checkIndex_8e157.cls ≠ "java/lang/invoke/VarHandle" ∧ (parseMethodDescriptor yJ3_checkIndex_8e157.desc).map (fun d => d.parameters.length) = some 3 := by decide +kernel
def fFillI_L (id n : Nat) (a1 : Int32) : Nat → Int32 → St → Option (Int32 × St)
  | 0, _, _ => none
  | k + 1, v2, σ => if Int32.ofNat n ≤ v2 then (some ((0 : Int32), σ)) else (qix v2 n (qlet (sI σ id v2.toNatClampNeg a1) (fun σ13 => qlet (v2 + (1 : Int32)) (fun x14 => fFillI_L id n a1 k x14 σ13))))
def fFillI (σ : St) (id n : Nat) (a1 : Int32) : Option (Int32 × St) := fFillI_L id n a1 100000 (0 : Int32) σ
set_option maxRecDepth 100000 in
theorem kFillI_L {ad : Nat → Nat} {cy : Nat → ClassId} {X : va_W} {A : Nat → Prop} {D : va_G} {zs : Nat × Nat × Option Nat} {p : Program} {l : Launch} {e : Env} {s : State} {m : MethodId} {args : Array Value} {below : List Frame} {meth : Method} {c : Code} {id n : Nat} {a1 : Int32} (C : qC ceC 96 ad cy X A D zs cJ7_fill_53178 4 RJ7 wsJ7_fill_53178 p s m args meth c none) (hi : id < 96) (hce : ∀ T f g, ceC ad cy T id f g = .inl (cy 1, n, .inl f)) (r0 : Int32) (σ0 : St) (k : Nat) : ∀ (v2 : Int32) (σ : St), fFillI_L id n a1 k v2 σ = some (r0, σ0) → qVv ceC 96 ad cy X A D p l e (headSpec wsJ7_fill_53178 rmJ7_fill_53178).room s m args below meth c 4 r0 σ0 5 [(0, .ref (ad id)), (1, .int a1), (2, .int v2), (3, .int (Int32.ofNat n))] [] σ := by
  induction k with
  | zero => intro v2 σ h; cases h
  | succ k ih =>
    intro v2 σ h
    rw [fFillI_L] at h
    refine q_iload_n C dJ7_fill_53178_5 rfl 2 rfl ?_
    refine q_iload_n C dJ7_fill_53178_6 rfl 3 rfl ?_
    refine q_icmp_ge C (tgt := 20) dJ7_fill_53178_7 (by decide) h (fun h => ?_) (fun h => ?_)
    · exact q_vret C (r0 := r0) rfl dJ7_fill_53178_20 h
    · refine q_aload_n C dJ7_fill_53178_10 rfl 0 rfl ?_
      refine q_iload_n C dJ7_fill_53178_11 rfl 2 rfl ?_
      refine q_iload_n C dJ7_fill_53178_12 rfl 1 rfl ?_
      refine q_iast C (id := id) hi (fun f g => hce _ f g) dJ7_fill_53178_13 h (fun σ13 h => ?_)
      refine q_iincL C dJ7_fill_53178_14 2 rfl (by decide) (nv := 1) (by decide) h (lw := fun x14 => [(0, .ref (ad id)), (1, .int a1), (2, .int x14), (3, .int (Int32.ofNat n))]) (fun _ => rfl) (fun x14 h => ?_)
      refine q_goto C (tgt := 5) dJ7_fill_53178_17 (by decide) ?_
      exact ih x14 σ13 h
set_option maxRecDepth 100000 in
theorem kFillI (l : Launch) (D : va_G) (ad : Nat → Nat) (cy : Nat → ClassId) (X : va_W) (A : Nat → Prop) (zs : Nat × Nat × Option Nat) (σ : St) (id n : Nat) (a1 : Int32) (hi : id < 96) (hce : ∀ T f g, ceC ad cy T id f g = .inl (cy 1, n, .inl f)) (hn : n < 2 ^ 31) (r0 : Int32) (σ0 : St) (h : fFillI σ id n a1 = some (r0, σ0)) : Met l yJ7_fill_53178 wsJ7_fill_53178 rmJ7_fill_53178 (qPc ceC 96 ad cy X A D zs [.ref (ad id), .int a1] σ) (qQv ceC 96 ad cy X A D σ0) 0 0 A := by
  refine Met.ofW (cc := cJ7_fill_53178) (maxL := 4) (ret := none) (by decide) rfl ?_
  intro p e s m args below meth c s₁ B hml hv
  obtain ⟨ha, hP, hK, hE, hD⟩ := hv
  have C : qC ceC 96 ad cy X A D zs cJ7_fill_53178 4 RJ7 wsJ7_fill_53178 p s m args meth c none := ⟨B.exec, B.bytes, hml, findClass_of_methodNamed B.named, atoms_spec (ws := wsJ7_fill_53178) B.pre, hK, hD, B.returns, B.notSynchronized, hE⟩
  rw [show entryFrame m args 4 = entryFrame m ([.ref (ad id), .int a1] : List Value).toArray 4 by rw [ha]]
  refine q_entry (A := A) (Nat.le_of_ble_eq_true rfl) hP (lv := [(0, .ref (ad id)), (1, .int a1)]) rfl ?_
  unfold fFillI at h
  refine q_iconst C (v := 0) dJ7_fill_53178_0 (by decide) ?_
  refine q_istore_n C dJ7_fill_53178_1 rfl (by decide) (lv' := [(0, .ref (ad id)), (1, .int a1), (2, .int 0)]) rfl ?_
  refine q_aload_n C dJ7_fill_53178_2 rfl 0 rfl ?_
  refine q_alen C (id := id) (t0 := 1) hi (hce _ _ _) rfl rfl dJ7_fill_53178_3 ?_
  refine q_istore_n C dJ7_fill_53178_4 rfl (by decide) (lv' := [(0, .ref (ad id)), (1, .int a1), (2, .int 0), (3, .int (Int32.ofNat n))]) rfl ?_
  exact kFillI_L C hi hce r0 σ0 100000 0 σ h
def fFillB_L (id n : Nat) (a1 : Int32) : Nat → Int32 → St → Option (Int32 × St)
  | 0, _, _ => none
  | k + 1, v2, σ => if Int32.ofNat n ≤ v2 then (some ((0 : Int32), σ)) else (qix v2 n (qlet (sI σ id v2.toNatClampNeg (vp_nar .byte a1)) (fun σ13 => qlet (v2 + (1 : Int32)) (fun x14 => fFillB_L id n a1 k x14 σ13))))
def fFillB (σ : St) (id n : Nat) (a1 : Int32) : Option (Int32 × St) := fFillB_L id n a1 100000 (0 : Int32) σ
set_option maxRecDepth 100000 in
theorem kFillB_L {ad : Nat → Nat} {cy : Nat → ClassId} {X : va_W} {A : Nat → Prop} {D : va_G} {zs : Nat × Nat × Option Nat} {p : Program} {l : Launch} {e : Env} {s : State} {m : MethodId} {args : Array Value} {below : List Frame} {meth : Method} {c : Code} {id n : Nat} {a1 : Int32} (C : qC ceC 96 ad cy X A D zs cJ7_fill_031fb 4 RJ7 wsJ7_fill_031fb p s m args meth c none) (hi : id < 96) (hce : ∀ T f g, ceC ad cy T id f g = .inl (cy 0, n, .inl f)) (r0 : Int32) (σ0 : St) (k : Nat) : ∀ (v2 : Int32) (σ : St), fFillB_L id n a1 k v2 σ = some (r0, σ0) → qVv ceC 96 ad cy X A D p l e (headSpec wsJ7_fill_031fb rmJ7_fill_031fb).room s m args below meth c 4 r0 σ0 5 [(0, .ref (ad id)), (1, .int a1), (2, .int v2), (3, .int (Int32.ofNat n))] [] σ := by
  induction k with
  | zero => intro v2 σ h; cases h
  | succ k ih =>
    intro v2 σ h
    rw [fFillB_L] at h
    refine q_iload_n C dJ7_fill_031fb_5 rfl 2 rfl ?_
    refine q_iload_n C dJ7_fill_031fb_6 rfl 3 rfl ?_
    refine q_icmp_ge C (tgt := 20) dJ7_fill_031fb_7 (by decide) h (fun h => ?_) (fun h => ?_)
    · exact q_vret C (r0 := r0) rfl dJ7_fill_031fb_20 h
    · refine q_aload_n C dJ7_fill_031fb_10 rfl 0 rfl ?_
      refine q_iload_n C dJ7_fill_031fb_11 rfl 2 rfl ?_
      refine q_iload_n C dJ7_fill_031fb_12 rfl 1 rfl ?_
      refine q_bast C (id := id) hi (fun f g => hce _ f g) dJ7_fill_031fb_13 h (fun σ13 h => ?_)
      refine q_iincL C dJ7_fill_031fb_14 2 rfl (by decide) (nv := 1) (by decide) h (lw := fun x14 => [(0, .ref (ad id)), (1, .int a1), (2, .int x14), (3, .int (Int32.ofNat n))]) (fun _ => rfl) (fun x14 h => ?_)
      refine q_goto C (tgt := 5) dJ7_fill_031fb_17 (by decide) ?_
      exact ih x14 σ13 h
set_option maxRecDepth 100000 in
theorem kFillB (l : Launch) (D : va_G) (ad : Nat → Nat) (cy : Nat → ClassId) (X : va_W) (A : Nat → Prop) (zs : Nat × Nat × Option Nat) (σ : St) (id n : Nat) (a1 : Int32) (hi : id < 96) (hce : ∀ T f g, ceC ad cy T id f g = .inl (cy 0, n, .inl f)) (hn : n < 2 ^ 31) (r0 : Int32) (σ0 : St) (h : fFillB σ id n a1 = some (r0, σ0)) : Met l yJ7_fill_031fb wsJ7_fill_031fb rmJ7_fill_031fb (qPc ceC 96 ad cy X A D zs [.ref (ad id), .int a1] σ) (qQv ceC 96 ad cy X A D σ0) 0 0 A := by
  refine Met.ofW (cc := cJ7_fill_031fb) (maxL := 4) (ret := none) (by decide) rfl ?_
  intro p e s m args below meth c s₁ B hml hv
  obtain ⟨ha, hP, hK, hE, hD⟩ := hv
  have C : qC ceC 96 ad cy X A D zs cJ7_fill_031fb 4 RJ7 wsJ7_fill_031fb p s m args meth c none := ⟨B.exec, B.bytes, hml, findClass_of_methodNamed B.named, atoms_spec (ws := wsJ7_fill_031fb) B.pre, hK, hD, B.returns, B.notSynchronized, hE⟩
  rw [show entryFrame m args 4 = entryFrame m ([.ref (ad id), .int a1] : List Value).toArray 4 by rw [ha]]
  refine q_entry (A := A) (Nat.le_of_ble_eq_true rfl) hP (lv := [(0, .ref (ad id)), (1, .int a1)]) rfl ?_
  unfold fFillB at h
  refine q_iconst C (v := 0) dJ7_fill_031fb_0 (by decide) ?_
  refine q_istore_n C dJ7_fill_031fb_1 rfl (by decide) (lv' := [(0, .ref (ad id)), (1, .int a1), (2, .int 0)]) rfl ?_
  refine q_aload_n C dJ7_fill_031fb_2 rfl 0 rfl ?_
  refine q_alen C (id := id) (t0 := 0) hi (hce _ _ _) rfl rfl dJ7_fill_031fb_3 ?_
  refine q_istore_n C dJ7_fill_031fb_4 rfl (by decide) (lv' := [(0, .ref (ad id)), (1, .int a1), (2, .int 0), (3, .int (Int32.ofNat n))]) rfl ?_
  exact kFillB_L C hi hce r0 σ0 100000 0 σ h
section QSTR
variable {ce : qCE} {N : Nat} {ad : Nat → Nat} {cy : Nat → ClassId} {X : va_W} {A : Nat → Prop} {D : va_G} {p : Program} {l : Launch} {e : Env} {R : Room} {s : State} {m : MethodId} {args : Array Value} {below : List Frame} {meth : Method} {c : Code} {nL kc ks : Nat} {Q : State → Prop}
variable {cc : ByteArray} {own : String} {Ts : List Cond} {ret : Option FieldType} {zs : Nat × Nat × Option Nat} {pc : Nat} {lv lv' : List (Nat × Value)} {st : List Value} {σ : St}
theorem q_compact (C : qC ce N ad cy X A D zs cc nL own Ts p s m args meth c ret) {index : Nat} (hlink : Cond.fieldLink own index "java/lang/String" "COMPACT_STRINGS" "Z" ∈ Ts) (hd : decode cc pc = .ok (.getstatic index, 3)) (kk : qW ce N ad cy X A D p l e R s m args below meth c nL kc ks Q (pc + 3) lv (.int 1 :: st) σ) : qW ce N ad cy X A D p l e R s m args below meth c nL kc ks Q pc lv st σ := fun H locs ls hP hS hl => va_gets C.1 C.2.1 C.2.2.2.2.2.2.2.2.2.2.2.2.1 hS C.2.2.2.1 (C.2.2.2.2.1 _ hlink) (fun _ h => h) hd (kk H locs ls hP hS hl)
theorem q_sioobe (C : qC ce N ad cy X A D zs cc nL own Ts p s m args meth c ret) {index : Nat} (hlink : Cond.fieldLink own index "jdk/internal/util/Preconditions" "SIOOBE_FORMATTER" "Ljava/util/function/BiFunction;" ∈ Ts) (hd : decode cc pc = .ok (.getstatic index, 3)) (kk : qW ce N ad cy X A D p l e R s m args below meth c nL kc ks Q (pc + 3) lv (va_rf zs.2.2 :: st) σ) : qW ce N ad cy X A D p l e R s m args below meth c nL kc ks Q pc lv st σ := fun H locs ls hP hS hl => va_gets C.1 C.2.1 C.2.2.2.2.2.2.2.2.2.2.2.2.2 hS C.2.2.2.1 (C.2.2.2.2.1 _ hlink) (fun _ h => h) hd (kk H locs ls hP hS hl)
theorem q_coder (C : qC ce N ad cy X A D zs cc nL own Ts p s m args meth c ret) {index : Nat} (hlink : Cond.fieldLink own index "java/lang/String" "coder" "B" ∈ Ts) (hd : decode cc pc = .ok (.getfield index, 3)) (kk : qW ce N ad cy X A D p l e R s m args below meth c nL kc ks Q (pc + 3) lv (.int 0 :: st) σ) : qW ce N ad cy X A D p l e R s m args below meth c nL kc ks Q pc lv (.ref zs.1 :: st) σ := fun H locs ls hP hS hl => vk_getf C.1 C.2.1 (C.2.2.2.2.2.2.2.2.2.2.2.1.1 0 (by decide)).2.1 hS C.2.2.2.1 (C.2.2.2.2.1 _ hlink) (fun _ h => h) hd (kk H locs ls hP hS hl)
theorem q_value (C : qC ce N ad cy X A D zs cc nL own Ts p s m args meth c ret) {index : Nat} (hlink : Cond.fieldLink own index "java/lang/String" "value" "[B" ∈ Ts) (hd : decode cc pc = .ok (.getfield index, 3)) (kk : qW ce N ad cy X A D p l e R s m args below meth c nL kc ks Q (pc + 3) lv (.ref zs.2.1 :: st) σ) : qW ce N ad cy X A D p l e R s m args below meth c nL kc ks Q pc lv (.ref zs.1 :: st) σ := fun H locs ls hP hS hl => vk_getf C.1 C.2.1 (C.2.2.2.2.2.2.2.2.2.2.2.1.1 0 (by decide)).2.2.1 hS C.2.2.2.1 (C.2.2.2.2.1 _ hlink) (fun _ h => h) hd (kk H locs ls hP hS hl)
theorem q_vlen (C : qC ce N ad cy X A D zs cc nL own Ts p s m args meth c ret) (hd : decode cc pc = .ok (.arraylength, 1)) (kk : qW ce N ad cy X A D p l e R s m args below meth c nL kc ks Q (pc + 1) lv (.int 71 :: st) σ) : qW ce N ad cy X A D p l e R s m args below meth c nL kc ks Q pc lv (.ref zs.2.1 :: st) σ := fun H locs ls hP hS hl => va_tlen C.1 C.2.1 (C.2.2.2.2.2.2.2.2.2.2.2.1.1 0 (by decide)).2.2.2 hS rfl hd (kk H locs ls hP hS hl)
theorem q_vald (C : qC ce N ad cy X A D zs cc nL own Ts p s m args meth c ret) {i : Int32} (hin : vp_in i 71) (hd : decode cc pc = .ok (.baload, 1)) (kk : qW ce N ad cy X A D p l e R s m args below meth c nL kc ks Q (pc + 1) lv (.int (wordsB.getD i.toNatClampNeg 0) :: st) σ) : qW ce N ad cy X A D p l e R s m args below meth c nL kc ks Q pc lv (.int i :: .ref zs.2.1 :: st) σ := fun H locs ls hP hS hl => va_tb C.1 C.2.1 (C.2.2.2.2.2.2.2.2.2.2.2.1.1 0 (by decide)).2.2.2 hS hin rfl hd (kk H locs ls hP hS hl)
end QSTR
theorem hJ0_coder_7d493_0 : Cond.fieldLink RJ0 38 "java/lang/String" "COMPACT_STRINGS" "Z" ∈ wsJ0_coder_7d493 := by decide +kernel
theorem hJ0_coder_7d493_1 : Cond.fieldLink RJ0 15 "java/lang/String" "coder" "B" ∈ wsJ0_coder_7d493 := by decide +kernel
theorem q_bret {ce : qCE} {N : Nat} {ad : Nat → Nat} {cy : Nat → ClassId} {X : va_W} {A : Nat → Prop} {D : va_G} {p : Program} {l : Launch} {e : Env} {R : Room} {s : State} {m : MethodId} {args : Array Value} {below : List Frame} {meth : Method} {c : Code} {nL kc ks : Nat} {cc : ByteArray} {own : String} {Ts : List Cond} {ret : Option FieldType} {zs : Nat × Nat × Option Nat} {pc : Nat} {lv : List (Nat × Value)} {σ : St} (C : qC ce N ad cy X A D zs cc nL own Ts p s m args meth c ret) {v : Int32} {ty : FieldType} (hret : ret = some ty) (hn : narrow ty (.int v) = .int v) (hd : decode cc pc = .ok (.ireturn, 1)) : qW ce N ad cy X A D p l e R s m args below meth c nL kc ks (MQ below (qQi ce N ad cy X A D v σ) args s kc ks A) pc lv [.int v] σ := fun H locs ls hP hS hl =>
  W.zret (ty := ty) C.1 C.2.1 (C.2.2.2.2.2.2.2.1.trans hret) hn (fun t ht hW => ⟨⟨_, _, rfl, ⟨rfl, rfl⟩, by show va_P _ _ _ _; rw [ht]; exact hP⟩, hS.F ht⟩) hS.2.2 hd C.2.2.2.2.2.2.2.2.1
set_option maxRecDepth 100000 in
theorem kStrCoder {ce : qCE} {N : Nat} (l : Launch) (D : va_G) (ad : Nat → Nat) (cy : Nat → ClassId) (X : va_W) (A : Nat → Prop) (zs : Nat × Nat × Option Nat) (σ : St) : Met l yJ0_coder_7d493 wsJ0_coder_7d493 rmJ0_coder_7d493 (qPc ce N ad cy X A D zs [.ref zs.1] σ) (qQi ce N ad cy X A D 0 σ) 0 0 A := by
  refine Met.ofW (cc := cJ0_coder_7d493) (maxL := 1) (ret := (some .byte)) (by decide) rfl ?_
  intro p e s m args below meth c s₁ B hml hv
  obtain ⟨ha, hP, hK, hE, hD⟩ := hv
  have C : qC ce N ad cy X A D zs cJ0_coder_7d493 1 RJ0 wsJ0_coder_7d493 p s m args meth c (some .byte) := ⟨B.exec, B.bytes, hml, findClass_of_methodNamed B.named, atoms_spec (ws := wsJ0_coder_7d493) B.pre, hK, hD, B.returns, B.notSynchronized, hE⟩
  rw [show entryFrame m args 1 = entryFrame m ([.ref zs.1] : List Value).toArray 1 by rw [ha]]
  refine q_entry (A := A) (Nat.le_of_ble_eq_true rfl) hP (lv := [(0, .ref zs.1)]) rfl ?_
  refine q_compact C hJ0_coder_7d493_0 dJ0_coder_7d493_0 ?_
  refine q_if_eq C (tgt := 13) dJ0_coder_7d493_3 (by decide) (o := some ()) (ft := none) (ff := some ()) rfl (fun h => by cases h) (fun h => ?_)
  refine q_aload_n C dJ0_coder_7d493_6 rfl 0 rfl ?_
  refine q_coder C hJ0_coder_7d493_1 dJ0_coder_7d493_7 ?_
  refine q_goto C (tgt := 14) dJ0_coder_7d493_10 (by decide) ?_
  exact q_bret C rfl rfl dJ0_coder_7d493_14
theorem hJ0_isLatin1_aae02_2 : Cond.fieldLink RJ0 38 "java/lang/String" "COMPACT_STRINGS" "Z" ∈ wsJ0_isLatin1_aae02 := by decide +kernel
theorem hJ0_isLatin1_aae02_3 : Cond.fieldLink RJ0 15 "java/lang/String" "coder" "B" ∈ wsJ0_isLatin1_aae02 := by decide +kernel
set_option maxRecDepth 100000 in
theorem kStrLatin {ce : qCE} {N : Nat} (l : Launch) (D : va_G) (ad : Nat → Nat) (cy : Nat → ClassId) (X : va_W) (A : Nat → Prop) (zs : Nat × Nat × Option Nat) (σ : St) : Met l yJ0_isLatin1_aae02 wsJ0_isLatin1_aae02 rmJ0_isLatin1_aae02 (qPc ce N ad cy X A D zs [.ref zs.1] σ) (qQi ce N ad cy X A D 1 σ) 0 0 A := by
  refine Met.ofW (cc := cJ0_isLatin1_aae02) (maxL := 1) (ret := (some .boolean)) (by decide) rfl ?_
  intro p e s m args below meth c s₁ B hml hv
  obtain ⟨ha, hP, hK, hE, hD⟩ := hv
  have C : qC ce N ad cy X A D zs cJ0_isLatin1_aae02 1 RJ0 wsJ0_isLatin1_aae02 p s m args meth c (some .boolean) := ⟨B.exec, B.bytes, hml, findClass_of_methodNamed B.named, atoms_spec (ws := wsJ0_isLatin1_aae02) B.pre, hK, hD, B.returns, B.notSynchronized, hE⟩
  rw [show entryFrame m args 1 = entryFrame m ([.ref zs.1] : List Value).toArray 1 by rw [ha]]
  refine q_entry (A := A) (Nat.le_of_ble_eq_true rfl) hP (lv := [(0, .ref zs.1)]) rfl ?_
  refine q_compact C hJ0_isLatin1_aae02_2 dJ0_isLatin1_aae02_0 ?_
  refine q_if_eq C (tgt := 17) dJ0_isLatin1_aae02_3 (by decide) (o := some ()) (ft := none) (ff := some ()) rfl (fun h => by cases h) (fun h => ?_)
  refine q_aload_n C dJ0_isLatin1_aae02_6 rfl 0 rfl ?_
  refine q_coder C hJ0_isLatin1_aae02_3 dJ0_isLatin1_aae02_7 ?_
  refine q_if_ne C (tgt := 17) dJ0_isLatin1_aae02_10 (by decide) (o := some ()) (ft := none) (ff := some ()) rfl (fun h => by cases h) (fun h => ?_)
  refine q_iconst C (v := 1) dJ0_isLatin1_aae02_13 (by decide) ?_
  refine q_goto C (tgt := 18) dJ0_isLatin1_aae02_14 (by decide) ?_
  exact q_bret C rfl rfl dJ0_isLatin1_aae02_18
theorem hJ0_length_8abf5_4 : Cond.fieldLink RJ0 9 "java/lang/String" "value" "[B" ∈ wsJ0_length_8abf5 := by decide +kernel
set_option maxRecDepth 100000 in
theorem kStrLen {ce : qCE} {N : Nat} (l : Launch) (D : va_G) (ad : Nat → Nat) (cy : Nat → ClassId) (X : va_W) (A : Nat → Prop) (zs : Nat × Nat × Option Nat) (σ : St) : Met l yJ0_length_8abf5 wsJ0_length_8abf5 rmJ0_length_8abf5 (qPc ce N ad cy X A D zs [.ref zs.1] σ) (qQi ce N ad cy X A D 71 σ) 0 0 A := by
  refine Met.ofW (cc := cJ0_length_8abf5) (maxL := 1) (ret := (some .int)) (by decide) rfl ?_
  intro p e s m args below meth c s₁ B hml hv
  obtain ⟨ha, hP, hK, hE, hD⟩ := hv
  have C : qC ce N ad cy X A D zs cJ0_length_8abf5 1 RJ0 wsJ0_length_8abf5 p s m args meth c (some .int) := ⟨B.exec, B.bytes, hml, findClass_of_methodNamed B.named, atoms_spec (ws := wsJ0_length_8abf5) B.pre, hK, hD, B.returns, B.notSynchronized, hE⟩
  rw [show entryFrame m args 1 = entryFrame m ([.ref zs.1] : List Value).toArray 1 by rw [ha]]
  refine q_entry (A := A) (Nat.le_of_ble_eq_true rfl) hP (lv := [(0, .ref zs.1)]) rfl ?_
  refine q_aload_n C dJ0_length_8abf5_0 rfl 0 rfl ?_
  refine q_value C hJ0_length_8abf5_4 dJ0_length_8abf5_1 ?_
  refine q_vlen C dJ0_length_8abf5_4 ?_
  refine q_aload_n C dJ0_length_8abf5_5 rfl 0 rfl ?_
  refine q_callRi C (rm := rmJ0_coder_7d493) (As := []) (rest := [.int 71]) (CC := RJ0) (b9 := zs.1) (fe := some ((0 : Int32), σ)) (f := fun r σ => some (r, σ)) (o := ((0 : Int32), σ)) (fun r9 σ9 h9 => by cases h9; exact kStrCoder l D ad cy X A zs σ) gJ0_length_8abf5_J0_coder_7d493 rfl rfl rfl hyJ0_coder_7d493 ⟨Nat.le_of_ble_eq_true rfl, Nat.le_of_ble_eq_true rfl⟩ (fun H locs hS => vk_recv C.2.2.2.2.2.2.2.2.2.2.2.1 (by decide : (0 : Nat) < 1) hS) rfl rfl (Nat.le_of_ble_eq_true rfl) dJ0_length_8abf5_6 ⟨Nat.zero_le _, Nat.zero_le _⟩ rfl (fun r σ1 h => ?_)
  cases h
  refine q_ishr C dJ0_length_8abf5_9 ?_
  exact q_iret C rfl dJ0_length_8abf5_10 rfl
theorem q_lt71 {i : Int32} (h : vp_in i 71) : i < 71 := by
  obtain ⟨j, hj, rfl⟩ := vp_in_of h (by decide)
  exact nI_lt hj (by decide)
set_option maxRecDepth 100000 in
theorem kChk3 {ce : qCE} {N : Nat} (l : Launch) (D : va_G) (ad : Nat → Nat) (cy : Nat → ClassId) (X : va_W) (A : Nat → Prop) (zs : Nat × Nat × Option Nat) (σ : St) (i : Int32) (hin : vp_in i 71) : Met l yJ3_checkIndex_8e157 wsJ3_checkIndex_8e157 rmJ3_checkIndex_8e157 (qPc ce N ad cy X A D zs [.int i, .int 71, va_rf zs.2.2] σ) (qQi ce N ad cy X A D i σ) 0 0 A := by
  refine Met.ofW (cc := cJ3_checkIndex_8e157) (maxL := 3) (ret := (some .int)) (by decide) rfl ?_
  intro p e s m args below meth c s₁ B hml hv
  obtain ⟨ha, hP, hK, hE, hD⟩ := hv
  have C : qC ce N ad cy X A D zs cJ3_checkIndex_8e157 3 RJ3 wsJ3_checkIndex_8e157 p s m args meth c (some .int) := ⟨B.exec, B.bytes, hml, findClass_of_methodNamed B.named, atoms_spec (ws := wsJ3_checkIndex_8e157) B.pre, hK, hD, B.returns, B.notSynchronized, hE⟩
  rw [show entryFrame m args 3 = entryFrame m ([.int i, .int 71, va_rf zs.2.2] : List Value).toArray 3 by rw [ha]]
  refine q_entry (A := A) (by cases hz : zs.2.2 <;> exact Nat.le_of_ble_eq_true rfl) hP (lv := [(0, .int i), (1, .int 71), (2, va_rf zs.2.2)]) (by cases hz : zs.2.2 <;> rfl) ?_
  refine q_iload_n C dJ3_checkIndex_8e157_0 rfl 0 rfl ?_
  refine q_if_lt C (tgt := 9) dJ3_checkIndex_8e157_1 (by decide) (o := some ()) (ft := none) (ff := some ()) (if_neg (fun q => hin (Or.inl q))) (fun h => by cases h) (fun h => ?_)
  refine q_iload_n C dJ3_checkIndex_8e157_4 rfl 0 rfl ?_
  refine q_iload_n C dJ3_checkIndex_8e157_5 rfl 1 rfl ?_
  refine q_icmp_lt C (tgt := 16) dJ3_checkIndex_8e157_6 (by decide) (o := some ()) (ft := some ()) (ff := none) (if_pos (q_lt71 hin)) (fun h => ?_) (fun h => by cases h)
  refine q_iload_n C dJ3_checkIndex_8e157_16 rfl 0 rfl ?_
  exact q_iret C rfl dJ3_checkIndex_8e157_17 rfl
theorem hJ0_checkIndex_df160_5 : Cond.fieldLink RJ0 1053 "jdk/internal/util/Preconditions" "SIOOBE_FORMATTER" "Ljava/util/function/BiFunction;" ∈ wsJ0_checkIndex_df160 := by decide +kernel
set_option maxRecDepth 100000 in
theorem kChk {ce : qCE} {N : Nat} (l : Launch) (D : va_G) (ad : Nat → Nat) (cy : Nat → ClassId) (X : va_W) (A : Nat → Prop) (zs : Nat × Nat × Option Nat) (σ : St) (i : Int32) (hin : vp_in i 71) : Met l yJ0_checkIndex_df160 wsJ0_checkIndex_df160 rmJ0_checkIndex_df160 (qPc ce N ad cy X A D zs [.int i, .int 71] σ) (qQv ce N ad cy X A D σ) 0 0 A := by
  refine Met.ofW (cc := cJ0_checkIndex_df160) (maxL := 2) (ret := none) (by decide) rfl ?_
  intro p e s m args below meth c s₁ B hml hv
  obtain ⟨ha, hP, hK, hE, hD⟩ := hv
  have C : qC ce N ad cy X A D zs cJ0_checkIndex_df160 2 RJ0 wsJ0_checkIndex_df160 p s m args meth c none := ⟨B.exec, B.bytes, hml, findClass_of_methodNamed B.named, atoms_spec (ws := wsJ0_checkIndex_df160) B.pre, hK, hD, B.returns, B.notSynchronized, hE⟩
  rw [show entryFrame m args 2 = entryFrame m ([.int i, .int 71] : List Value).toArray 2 by rw [ha]]
  refine q_entry (A := A) (Nat.le_of_ble_eq_true rfl) hP (lv := [(0, .int i), (1, .int 71)]) rfl ?_
  refine q_iload_n C dJ0_checkIndex_df160_0 rfl 0 rfl ?_
  refine q_iload_n C dJ0_checkIndex_df160_1 rfl 1 rfl ?_
  refine q_sioobe C hJ0_checkIndex_df160_5 dJ0_checkIndex_df160_2 ?_
  refine q_callSi C (rm := rmJ3_checkIndex_8e157) (As := [.int i, .int 71, va_rf zs.2.2]) (rest := []) (fe := some (i, σ)) (f := fun r σ => some (r, σ)) (o := (i, σ)) (fun r9 σ9 h9 => by cases h9; exact kChk3 l D ad cy X A zs σ i hin) gJ0_checkIndex_df160_J3_checkIndex_8e157 rfl rfl rfl hyJ3_checkIndex_8e157 ⟨Nat.le_of_ble_eq_true rfl, Nat.le_of_ble_eq_true rfl⟩ rfl rfl (Nat.le_of_ble_eq_true rfl) dJ0_checkIndex_df160_5 ⟨Nat.zero_le _, Nat.zero_le _⟩ rfl (fun r σ1 h => ?_)
  cases h
  refine q_pop C dJ0_checkIndex_df160_8 rfl ?_
  exact q_vret C (r0 := 0) rfl dJ0_checkIndex_df160_9 rfl
set_option maxRecDepth 100000 in
theorem kLatChar {ce : qCE} {N : Nat} (l : Launch) (D : va_G) (ad : Nat → Nat) (cy : Nat → ClassId) (X : va_W) (A : Nat → Prop) (zs : Nat × Nat × Option Nat) (σ : St) (i : Int32) (hin : vp_in i 71) : Met l yJ1_charAt_3b067 wsJ1_charAt_3b067 rmJ1_charAt_3b067 (qPc ce N ad cy X A D zs [.ref zs.2.1, .int i] σ) (qQi ce N ad cy X A D (wordsAt i.toNatClampNeg) σ) 0 0 A := by
  refine Met.ofW (cc := cJ1_charAt_3b067) (maxL := 2) (ret := (some .char)) (by decide) rfl ?_
  intro p e s m args below meth c s₁ B hml hv
  obtain ⟨ha, hP, hK, hE, hD⟩ := hv
  have C : qC ce N ad cy X A D zs cJ1_charAt_3b067 2 RJ1 wsJ1_charAt_3b067 p s m args meth c (some .char) := ⟨B.exec, B.bytes, hml, findClass_of_methodNamed B.named, atoms_spec (ws := wsJ1_charAt_3b067) B.pre, hK, hD, B.returns, B.notSynchronized, hE⟩
  rw [show entryFrame m args 2 = entryFrame m ([.ref zs.2.1, .int i] : List Value).toArray 2 by rw [ha]]
  refine q_entry (A := A) (Nat.le_of_ble_eq_true rfl) hP (lv := [(0, .ref zs.2.1), (1, .int i)]) rfl ?_
  refine q_iload_n C dJ1_charAt_3b067_0 rfl 1 rfl ?_
  refine q_aload_n C dJ1_charAt_3b067_1 rfl 0 rfl ?_
  refine q_vlen C dJ1_charAt_3b067_2 ?_
  refine q_callSv C (rm := rmJ0_checkIndex_df160) (As := [.int i, .int 71]) (rest := []) (fe := some ((0 : Int32), σ)) (f := fun r σ => some (r, σ)) (o := ((0 : Int32), σ)) (fun r9 σ9 h9 => by cases h9; exact kChk l D ad cy X A zs σ i hin) gJ1_charAt_3b067_J0_checkIndex_df160 rfl rfl rfl hyJ0_checkIndex_df160 ⟨Nat.le_of_ble_eq_true rfl, Nat.le_of_ble_eq_true rfl⟩ rfl rfl (Nat.le_of_ble_eq_true rfl) dJ1_charAt_3b067_3 ⟨Nat.zero_le _, Nat.zero_le _⟩ rfl (fun r σ1 h => ?_)
  cases h
  refine q_aload_n C dJ1_charAt_3b067_6 rfl 0 rfl ?_
  refine q_iload_n C dJ1_charAt_3b067_7 rfl 1 rfl ?_
  refine q_vald C hin dJ1_charAt_3b067_8 ?_
  refine q_sipush C (v := 255) dJ1_charAt_3b067_9 (by decide) ?_
  refine q_iand C dJ1_charAt_3b067_12 ?_
  refine q_i2c C (v := wordsAt i.toNatClampNeg) dJ1_charAt_3b067_13 (sc_c2 _) ?_
  exact q_bret C rfl (sc_nar _) dJ1_charAt_3b067_14
theorem hJ0_charAt_5068e_6 : Cond.fieldLink RJ0 9 "java/lang/String" "value" "[B" ∈ wsJ0_charAt_5068e := by decide +kernel
set_option maxRecDepth 100000 in
theorem kStrChar {ce : qCE} {N : Nat} (l : Launch) (D : va_G) (ad : Nat → Nat) (cy : Nat → ClassId) (X : va_W) (A : Nat → Prop) (zs : Nat × Nat × Option Nat) (σ : St) (i : Int32) (hin : vp_in i 71) : Met l yJ0_charAt_5068e wsJ0_charAt_5068e rmJ0_charAt_5068e (qPc ce N ad cy X A D zs [.ref zs.1, .int i] σ) (qQi ce N ad cy X A D (wordsAt i.toNatClampNeg) σ) 0 0 A := by
  refine Met.ofW (cc := cJ0_charAt_5068e) (maxL := 2) (ret := (some .char)) (by decide) rfl ?_
  intro p e s m args below meth c s₁ B hml hv
  obtain ⟨ha, hP, hK, hE, hD⟩ := hv
  have C : qC ce N ad cy X A D zs cJ0_charAt_5068e 2 RJ0 wsJ0_charAt_5068e p s m args meth c (some .char) := ⟨B.exec, B.bytes, hml, findClass_of_methodNamed B.named, atoms_spec (ws := wsJ0_charAt_5068e) B.pre, hK, hD, B.returns, B.notSynchronized, hE⟩
  rw [show entryFrame m args 2 = entryFrame m ([.ref zs.1, .int i] : List Value).toArray 2 by rw [ha]]
  refine q_entry (A := A) (Nat.le_of_ble_eq_true rfl) hP (lv := [(0, .ref zs.1), (1, .int i)]) rfl ?_
  refine q_aload_n C dJ0_charAt_5068e_0 rfl 0 rfl ?_
  refine q_callRi C (rm := rmJ0_isLatin1_aae02) (As := []) (rest := []) (CC := RJ0) (b9 := zs.1) (fe := some ((1 : Int32), σ)) (f := fun r σ => some (r, σ)) (o := ((1 : Int32), σ)) (fun r9 σ9 h9 => by cases h9; exact kStrLatin l D ad cy X A zs σ) gJ0_charAt_5068e_J0_isLatin1_aae02 rfl rfl rfl hyJ0_isLatin1_aae02 ⟨Nat.le_of_ble_eq_true rfl, Nat.le_of_ble_eq_true rfl⟩ (fun H locs hS => vk_recv C.2.2.2.2.2.2.2.2.2.2.2.1 (by decide : (0 : Nat) < 1) hS) rfl rfl (Nat.le_of_ble_eq_true rfl) dJ0_charAt_5068e_1 ⟨Nat.zero_le _, Nat.zero_le _⟩ rfl (fun r σ1 h => ?_)
  cases h
  refine q_if_eq C (tgt := 16) dJ0_charAt_5068e_4 (by decide) (o := some ()) (ft := none) (ff := some ()) rfl (fun h => by cases h) (fun h => ?_)
  refine q_aload_n C dJ0_charAt_5068e_7 rfl 0 rfl ?_
  refine q_value C hJ0_charAt_5068e_6 dJ0_charAt_5068e_8 ?_
  refine q_iload_n C dJ0_charAt_5068e_11 rfl 1 rfl ?_
  refine q_callSi C (rm := rmJ1_charAt_3b067) (As := [.ref zs.2.1, .int i]) (rest := []) (fe := some (wordsAt i.toNatClampNeg, σ)) (f := fun r σ => some (r, σ)) (o := (wordsAt i.toNatClampNeg, σ)) (fun r9 σ9 h9 => by cases h9; exact kLatChar l D ad cy X A zs σ i hin) gJ0_charAt_5068e_J1_charAt_3b067 rfl rfl rfl hyJ1_charAt_3b067 ⟨Nat.le_of_ble_eq_true rfl, Nat.le_of_ble_eq_true rfl⟩ rfl rfl (Nat.le_of_ble_eq_true rfl) dJ0_charAt_5068e_12 ⟨Nat.zero_le _, Nat.zero_le _⟩ rfl (fun r σ1 h => ?_)
  cases h
  exact q_bret C rfl (sc_nar _) dJ0_charAt_5068e_15
section QSTR2
variable {ce : qCE} {N : Nat} {ad : Nat → Nat} {cy : Nat → ClassId} {X : va_W} {A : Nat → Prop} {D : va_G} {p : Program} {l : Launch} {e : Env} {R : Room} {s : State} {m : MethodId} {args : Array Value} {below : List Frame} {meth : Method} {c : Code} {nL kc ks : Nat} {Q : State → Prop}
variable {cc : ByteArray} {own : String} {Ts : List Cond} {ret : Option FieldType} {zs : Nat × Nat × Option Nat} {pc : Nat} {lv lv' : List (Nat × Value)} {st : List Value} {σ : St}
theorem q_strlen (C : qC ce N ad cy X A D zs cc nL own Ts p s m args meth c ret) {index : Nat} (hG : GoodIn Ts (wsV own index RJ0 yJ0_length_8abf5 wsJ0_length_8abf5)) (hR : rmJ0_length_8abf5.frames + 1 ≤ R.frames ∧ 8 + (1 + 11) + rmJ0_length_8abf5.locals ≤ R.locals) (hcat : (st.map fun v => v.category).sum ≤ 8) (hd : decode cc pc = .ok (.invokevirtual index, 3)) (hf : kc + 0 ≤ R.cells ∧ ks + 0 ≤ R.slots) (kk : qW ce N ad cy X A D p l e R s m args below meth c nL kc ks Q (pc + 3) lv (.int 71 :: st) σ) : qW ce N ad cy X A D p l e R s m args below meth c nL kc ks Q pc lv (.ref zs.1 :: st) σ :=
  q_callRi C (rm := rmJ0_length_8abf5) (As := []) (rest := st) (CC := RJ0) (b9 := zs.1) (fe := some ((71 : Int32), σ)) (f := fun r σ => some (r, σ)) (o := ((71 : Int32), σ)) (fun r9 σ9 h9 => by cases h9; exact kStrLen l D ad cy X A zs σ) hG rfl rfl rfl hyJ0_length_8abf5 hR (fun H locs hS => vk_recv C.2.2.2.2.2.2.2.2.2.2.2.1 (by decide : (0 : Nat) < 1) hS) rfl rfl hcat hd hf rfl (fun r σ1 h => by cases h; exact kk)
theorem q_charAt (C : qC ce N ad cy X A D zs cc nL own Ts p s m args meth c ret) {index : Nat} {i : Int32} {β : Type} {o : β} {b : Option β} (hG : GoodIn Ts (wsV own index RJ0 yJ0_charAt_5068e wsJ0_charAt_5068e)) (hR : rmJ0_charAt_5068e.frames + 1 ≤ R.frames ∧ 8 + (2 + 11) + rmJ0_charAt_5068e.locals ≤ R.locals) (hcat : (st.map fun v => v.category).sum ≤ 8) (hd : decode cc pc = .ok (.invokevirtual index, 3)) (hf : kc + 0 ≤ R.cells ∧ ks + 0 ≤ R.slots) (h : qix i 71 b = some o) (kk : b = some o → qW ce N ad cy X A D p l e R s m args below meth c nL kc ks Q (pc + 3) lv (.int (wordsAt i.toNatClampNeg) :: st) σ) : qW ce N ad cy X A D p l e R s m args below meth c nL kc ks Q pc lv (.int i :: .ref zs.1 :: st) σ :=
  q_callRi C (rm := rmJ0_charAt_5068e) (As := [.int i]) (rest := st) (CC := RJ0) (b9 := zs.1) (fe := some (wordsAt i.toNatClampNeg, σ)) (f := fun r σ => some (r, σ)) (o := (wordsAt i.toNatClampNeg, σ)) (fun r9 σ9 h9 => by cases h9; exact kStrChar l D ad cy X A zs σ i (qix_some h).1) hG rfl rfl rfl hyJ0_charAt_5068e hR (fun H locs hS => vk_recv C.2.2.2.2.2.2.2.2.2.2.2.1 (by decide : (0 : Nat) < 1) hS) rfl rfl hcat hd hf rfl (fun r σ1 h9 => by cases h9; exact kk (qix_some h).2)
end QSTR2
