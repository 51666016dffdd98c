abbrev rmX6_read : Room := { frames := 5, cells := 0, slots := 0, locals := 116 }
theorem hyX6_read : yX6_read.cls = RX6 ∧ yX6_read.cls ≠ "java/lang/invoke/MethodHandle" ∧ yX6_read.cls ≠ "java/lang/invoke/VarHandle" ∧ (parseMethodDescriptor yX6_read.desc).map (fun d => d.parameters.length) = some 1 := by decide +kernel
theorem nX6_read_X6 : ∀ w ∈ u_ws RX6 TX6 60, w ∈ wsX6_read := fun w h => List.mem_cons_of_mem _ (List.mem_append_right _ h)
theorem hX6_read_150 : Cond.fieldLink RX6 150 (TX6 2).1 (TX6 2).2.1 (TX6 2).2.2.1 ∈ wsX6_read := by decide +kernel
theorem hX6_read_157 : Cond.fieldLink RX6 157 (TX6 4).1 (TX6 4).2.1 (TX6 4).2.2.1 ∈ wsX6_read := by decide +kernel
theorem hX6_read_17 : Cond.fieldLink RX6 17 (TX6 3).1 (TX6 3).2.1 (TX6 3).2.2.1 ∈ wsX6_read := by decide +kernel
theorem hX6_read_13 : Cond.fieldLink RX6 13 (TX6 1).1 (TX6 1).2.1 (TX6 1).2.2.1 ∈ wsX6_read := by decide +kernel
theorem hX6_read_191 : Cond.fieldLink RX6 191 (TX6 11).1 (TX6 11).2.1 (TX6 11).2.2.1 ∈ wsX6_read := by decide +kernel
theorem hX6_read_218 : Cond.fieldLink RX6 218 (TX6 12).1 (TX6 12).2.1 (TX6 12).2.2.1 ∈ wsX6_read := by decide +kernel
theorem hX6_read_188 : Cond.fieldLink RX6 188 (TX6 13).1 (TX6 13).2.1 (TX6 13).2.2.1 ∈ wsX6_read := by decide +kernel
theorem hX6_read_197 : Cond.fieldLink RX6 197 (TX6 15).1 (TX6 15).2.1 (TX6 15).2.2.1 ∈ wsX6_read := by decide +kernel
theorem hX6_read_40 : Cond.fieldLink RX6 40 (TX6 18).1 (TX6 18).2.1 (TX6 18).2.2.1 ∈ wsX6_read := by decide +kernel
theorem hX6_read_221 : Cond.fieldLink RX6 221 (TX6 19).1 (TX6 19).2.1 (TX6 19).2.2.1 ∈ wsX6_read := by decide +kernel
theorem hX6_read_43 : Cond.fieldLink RX6 43 (TX6 20).1 (TX6 20).2.1 (TX6 20).2.2.1 ∈ wsX6_read := by decide +kernel
theorem hX6_read_55 : Cond.fieldLink RX6 55 (TX6 24).1 (TX6 24).2.1 (TX6 24).2.2.1 ∈ wsX6_read := by decide +kernel
theorem hX6_read_224 : Cond.fieldLink RX6 224 (TX6 30).1 (TX6 30).2.1 (TX6 30).2.2.1 ∈ wsX6_read := by decide +kernel
theorem hX6_read_194 : Cond.fieldLink RX6 194 (TX6 14).1 (TX6 14).2.1 (TX6 14).2.2.1 ∈ wsX6_read := by decide +kernel
theorem hX6_read_37 : Cond.fieldLink RX6 37 (TX6 17).1 (TX6 17).2.1 (TX6 17).2.2.1 ∈ wsX6_read := by decide +kernel
theorem hX6_read_113 : Cond.fieldLink RX6 113 (TX6 49).1 (TX6 49).2.1 (TX6 49).2.2.1 ∈ wsX6_read := by decide +kernel
def fX6_read_L (a1 : Int32) : Nat → Nat → Int32 → St → Option (Int32 × St)
  | 0, _, _, _ => none
  | n + 1, lab, v2, σ => if lab = 0 then (if (σ.1 0 4) ≤ v2 then (qlet (sI σ 0 2 (0 : Int32)) (fun σ48 => qcall (fX6_cut σ48) (fun _ σ52 => qlet (sI σ52 0 11 (0 : Int32)) (fun σ57 => qlet (sI σ57 0 12 (0 : Int32)) (fun σ62 => qlet (sI σ62 0 13 (0 : Int32)) (fun σ67 => qlet (sI σ67 0 15 (0 : Int32)) (fun σ72 => qix a1 6 (qlet (sI σ72 0 19 ((((2 : Int32) * a1) + (1 : Int32)) - (σ72.1 8 a1.toNatClampNeg))) (fun σ88 => qix (σ88.1 0 19) 12 (qlet (sI σ88 9 (σ88.1 0 19).toNatClampNeg (0 : Int32)) (fun σ100 => qix (σ100.1 0 19) 12 (qlet (sI σ100 13 (σ100.1 0 19).toNatClampNeg (0 : Int32)) (fun σ110 => qlet (sI σ110 0 30 ((500 : Int32) * (σ110.1 0 19))) (fun σ120 => fX6_read_L a1 n 1 0 σ120)))))))))))))) else (qix v2 2000 (qix v2 2000 (qlet (sI σ 2 v2.toNatClampNeg (vp_nar .byte (σ.1 1 v2.toNatClampNeg))) (fun σ39 => qlet (v2 + (1 : Int32)) (fun x40 => fX6_read_L a1 n 0 x40 σ39)))))) else (qlet (fun (y145 : St) => (qlet (fun (y161 : Int32) => (qlet (sI y145 0 17 y161) (fun σ161 => if (σ161.1 0 13) ≤ (0 : Int32) then (qix a1 6 (qix a1 6 (qlet (sI σ161 8 a1.toNatClampNeg ((1 : Int32) - (σ161.1 8 a1.toNatClampNeg))) (fun σ189 => qlet (sI σ189 0 49 (-1 : Int32)) (fun σ192 => some ((0 : Int32), σ192)))))) else (some ((σ161.1 0 13), σ161))))) (fun j161 => (if (y145.1 0 13) ≤ (0 : Int32) then (j161 (-1 : Int32)) else (j161 (y145.1 0 14)))))) (fun j145 => (if (σ.1 0 13) = (0 : Int32) then (qcall (fX6_is σ (0 : Int32)) (fun r132 σ132 => if r132 = (0 : Int32) then (qcall (fX6_tellRule σ132) (fun _ σ139 => fX6_read_L a1 n 1 0 σ139)) else (j145 σ132))) else (j145 σ))))
def fX6_read (σ : St) (a1 : Int32) : Option (Int32 × St) := qcall (fX6_isLand σ a1) (fun r2 σ2 => if r2 = (0 : Int32) then (some ((-1 : Int32), σ2)) else (qlet (sI σ2 0 4 (σ2.1 0 2)) (fun σ15 => fX6_read_L a1 100000 0 (0 : Int32) σ15)))
set_option maxHeartbeats 4000000 in
set_option maxRecDepth 100000 in
theorem kX6_read_L {ad : Nat → Nat} {cy : Nat → ClassId} {X : va_W} {A : Nat → Prop} {D : va_G} {zs : Nat × Nat × Option Nat} {p : Program} {l : Launch} {e : Env} {s : State} {m : MethodId} {args : Array Value} {below : List Frame} {meth : Method} {c : Code} {a1 : Int32} (C : qC ceM 42 ad cy X A D zs cX6_read 3 RX6 wsX6_read p s m args meth c (some .int)) (r0 : Int32) (σ0 : St) (n : Nat) : (∀ (v2 : Int32) (σ : St), fX6_read_L a1 n 0 v2 σ = some (r0, σ0) → qVi ceM 42 ad cy X A D p l e (headSpec wsX6_read rmX6_read).room s m args below meth c 3 r0 σ0 20 [(0, .ref (ad 0)), (1, .int a1), (2, .int v2)] [] σ) ∧ (∀ (σ : St), fX6_read_L a1 n 1 0 σ = some (r0, σ0) → qVi ceM 42 ad cy X A D p l e (headSpec wsX6_read rmX6_read).room s m args below meth c 3 r0 σ0 123 [(0, .ref (ad 0)), (1, .int a1)] [] σ) := by
  induction n with
  | zero =>
    refine ⟨?_, ?_⟩
    · intro v2 σ h; cases h
    · intro  σ h; cases h
  | succ n ih =>
    refine ⟨?_, ?_⟩
    · intro v2 σ h
      rw [fX6_read_L] at h
      rw [if_pos rfl] at h
      refine q_iload_n C dX6_read_20 rfl 2 rfl ?_
      refine q_aload_n C dX6_read_21 rfl 0 rfl ?_
      refine q_get C (Cn := RX6) (T := TX6) (Nf := 60) (ci := 6) (id := 0) (k := 4) (v := .int (σ.1 0 4)) nX6_read_X6 (by decide) (ceM_0 ad cy _ _ _) rfl (by decide) rfl hX6_read_157 dX6_read_22 ?_
      refine q_icmp_ge C (tgt := 46) dX6_read_25 (by decide) h (fun h => ?_) (fun h => ?_)
      · refine q_aload_n C dX6_read_46 rfl 0 rfl ?_
        refine q_iconst C (v := 0) dX6_read_47 (by decide) ?_
        refine q_put C (Cn := RX6) (T := TX6) (ty0 := tyX6) (Nf := 60) (ci := 6) (id := 0) (k := 2) (y := 0) tyX6_ok nmX6 nX6_read_X6 (by decide) (ceM_0 ad cy _ _ _) (ceM_0 ad cy _ _ _) rfl (by decide) rfl (by decide +kernel) (Nat.le_of_ble_eq_true rfl) hX6_read_150 dX6_read_48 h (fun σ48 h => ?_)
        refine q_aload_n C dX6_read_51 rfl 0 rfl ?_
        refine q_callVv C (rm := rmX6_cut) (As := []) (rest := []) (id := 0) (ci := 6) (fun r9 σ9 h9 => kX6_cut l D ad cy X A zs σ48 r9 σ9 h9) gX6_read_X6_cut rfl rfl rfl hyX6_cut ⟨Nat.le_of_ble_eq_true rfl, Nat.le_of_ble_eq_true rfl⟩ (by decide) (ceM_0 ad cy _ _ _) rfl rfl rfl (Nat.le_of_ble_eq_true rfl) dX6_read_52 ⟨Nat.zero_le _, Nat.zero_le _⟩ h (fun r52 σ52 h => ?_)
        refine q_aload_n C dX6_read_55 rfl 0 rfl ?_
        refine q_iconst C (v := 0) dX6_read_56 (by decide) ?_
        refine q_put C (Cn := RX6) (T := TX6) (ty0 := tyX6) (Nf := 60) (ci := 6) (id := 0) (k := 11) (y := 0) tyX6_ok nmX6 nX6_read_X6 (by decide) (ceM_0 ad cy _ _ _) (ceM_0 ad cy _ _ _) rfl (by decide) rfl (by decide +kernel) (Nat.le_of_ble_eq_true rfl) hX6_read_191 dX6_read_57 h (fun σ57 h => ?_)
        refine q_aload_n C dX6_read_60 rfl 0 rfl ?_
        refine q_iconst C (v := 0) dX6_read_61 (by decide) ?_
        refine q_put C (Cn := RX6) (T := TX6) (ty0 := tyX6) (Nf := 60) (ci := 6) (id := 0) (k := 12) (y := 0) tyX6_ok nmX6 nX6_read_X6 (by decide) (ceM_0 ad cy _ _ _) (ceM_0 ad cy _ _ _) rfl (by decide) rfl (by decide +kernel) (Nat.le_of_ble_eq_true rfl) hX6_read_218 dX6_read_62 h (fun σ62 h => ?_)
        refine q_aload_n C dX6_read_65 rfl 0 rfl ?_
        refine q_iconst C (v := 0) dX6_read_66 (by decide) ?_
        refine q_put C (Cn := RX6) (T := TX6) (ty0 := tyX6) (Nf := 60) (ci := 6) (id := 0) (k := 13) (y := 0) tyX6_ok nmX6 nX6_read_X6 (by decide) (ceM_0 ad cy _ _ _) (ceM_0 ad cy _ _ _) rfl (by decide) rfl (by decide +kernel) (Nat.le_of_ble_eq_true rfl) hX6_read_188 dX6_read_67 h (fun σ67 h => ?_)
        refine q_aload_n C dX6_read_70 rfl 0 rfl ?_
        refine q_iconst C (v := 0) dX6_read_71 (by decide) ?_
        refine q_put C (Cn := RX6) (T := TX6) (ty0 := tyX6) (Nf := 60) (ci := 6) (id := 0) (k := 15) (y := 0) tyX6_ok nmX6 nX6_read_X6 (by decide) (ceM_0 ad cy _ _ _) (ceM_0 ad cy _ _ _) rfl (by decide) rfl (by decide +kernel) (Nat.le_of_ble_eq_true rfl) hX6_read_197 dX6_read_72 h (fun σ72 h => ?_)
        refine q_aload_n C dX6_read_75 rfl 0 rfl ?_
        refine q_iconst C (v := 2) dX6_read_76 (by decide) ?_
        refine q_iload_n C dX6_read_77 rfl 1 rfl ?_
        refine q_imul C dX6_read_78 ?_
        refine q_iconst C (v := 1) dX6_read_79 (by decide) ?_
        refine q_iadd C dX6_read_80 ?_
        refine q_aload_n C dX6_read_81 rfl 0 rfl ?_
        refine q_get C (Cn := RX6) (T := TX6) (Nf := 60) (ci := 6) (id := 0) (k := 18) (v := .ref (ad 8)) nX6_read_X6 (by decide) (ceM_0 ad cy _ _ _) rfl (by decide) rfl hX6_read_40 dX6_read_82 ?_
        refine q_iload_n C dX6_read_85 rfl 1 rfl ?_
        refine q_iald C (id := 8) (by decide) (ceM_8 ad cy _ _ _) dX6_read_86 h (fun h => ?_)
        refine q_isub C dX6_read_87 ?_
        refine q_put C (Cn := RX6) (T := TX6) (ty0 := tyX6) (Nf := 60) (ci := 6) (id := 0) (k := 19) (y := 0) tyX6_ok nmX6 nX6_read_X6 (by decide) (ceM_0 ad cy _ _ _) (ceM_0 ad cy _ _ _) rfl (by decide) rfl (by decide +kernel) (Nat.le_of_ble_eq_true rfl) hX6_read_221 dX6_read_88 h (fun σ88 h => ?_)
        refine q_aload_n C dX6_read_91 rfl 0 rfl ?_
        refine q_get C (Cn := RX6) (T := TX6) (Nf := 60) (ci := 6) (id := 0) (k := 20) (v := .ref (ad 9)) nX6_read_X6 (by decide) (ceM_0 ad cy _ _ _) rfl (by decide) rfl hX6_read_43 dX6_read_92 ?_
        refine q_aload_n C dX6_read_95 rfl 0 rfl ?_
        refine q_get C (Cn := RX6) (T := TX6) (Nf := 60) (ci := 6) (id := 0) (k := 19) (v := .int (σ88.1 0 19)) nX6_read_X6 (by decide) (ceM_0 ad cy _ _ _) rfl (by decide) rfl hX6_read_221 dX6_read_96 ?_
        refine q_iconst C (v := 0) dX6_read_99 (by decide) ?_
        refine q_iast C (id := 9) (by decide) (fun f g => ceM_9 ad cy _ f g) dX6_read_100 h (fun σ100 h => ?_)
        refine q_aload_n C dX6_read_101 rfl 0 rfl ?_
        refine q_get C (Cn := RX6) (T := TX6) (Nf := 60) (ci := 6) (id := 0) (k := 24) (v := .ref (ad 13)) nX6_read_X6 (by decide) (ceM_0 ad cy _ _ _) rfl (by decide) rfl hX6_read_55 dX6_read_102 ?_
        refine q_aload_n C dX6_read_105 rfl 0 rfl ?_
        refine q_get C (Cn := RX6) (T := TX6) (Nf := 60) (ci := 6) (id := 0) (k := 19) (v := .int (σ100.1 0 19)) nX6_read_X6 (by decide) (ceM_0 ad cy _ _ _) rfl (by decide) rfl hX6_read_221 dX6_read_106 ?_
        refine q_iconst C (v := 0) dX6_read_109 (by decide) ?_
        refine q_iast C (id := 13) (by decide) (fun f g => ceM_13 ad cy _ f g) dX6_read_110 h (fun σ110 h => ?_)
        refine q_aload_n C dX6_read_111 rfl 0 rfl ?_
        refine q_sipush C (v := 500) dX6_read_112 (by decide) ?_
        refine q_aload_n C dX6_read_115 rfl 0 rfl ?_
        refine q_get C (Cn := RX6) (T := TX6) (Nf := 60) (ci := 6) (id := 0) (k := 19) (v := .int (σ110.1 0 19)) nX6_read_X6 (by decide) (ceM_0 ad cy _ _ _) rfl (by decide) rfl hX6_read_221 dX6_read_116 ?_
        refine q_imul C dX6_read_119 ?_
        refine q_put C (Cn := RX6) (T := TX6) (ty0 := tyX6) (Nf := 60) (ci := 6) (id := 0) (k := 30) (y := 0) tyX6_ok nmX6 nX6_read_X6 (by decide) (ceM_0 ad cy _ _ _) (ceM_0 ad cy _ _ _) rfl (by decide) rfl (by decide +kernel) (Nat.le_of_ble_eq_true rfl) hX6_read_224 dX6_read_120 h (fun σ120 h => ?_)
        exact q_sub [0, 1] rfl (ih.2 σ120 h)
      · refine q_aload_n C dX6_read_28 rfl 0 rfl ?_
        refine q_get C (Cn := RX6) (T := TX6) (Nf := 60) (ci := 6) (id := 0) (k := 3) (v := .ref (ad 2)) nX6_read_X6 (by decide) (ceM_0 ad cy _ _ _) rfl (by decide) rfl hX6_read_17 dX6_read_29 ?_
        refine q_iload_n C dX6_read_32 rfl 2 rfl ?_
        refine q_aload_n C dX6_read_33 rfl 0 rfl ?_
        refine q_get C (Cn := RX6) (T := TX6) (Nf := 60) (ci := 6) (id := 0) (k := 1) (v := .ref (ad 1)) nX6_read_X6 (by decide) (ceM_0 ad cy _ _ _) rfl (by decide) rfl hX6_read_13 dX6_read_34 ?_
        refine q_iload_n C dX6_read_37 rfl 2 rfl ?_
        refine q_bald C (id := 1) (by decide) (ceM_1 ad cy _ _ _) dX6_read_38 h (fun h => ?_)
        refine q_bast C (id := 2) (by decide) (fun f g => ceM_2 ad cy _ f g) dX6_read_39 h (fun σ39 h => ?_)
        refine q_iincL C dX6_read_40 2 rfl (by decide) (nv := 1) (by decide) h (lw := fun x40 => [(0, .ref (ad 0)), (1, .int a1), (2, .int x40)]) (fun _ => rfl) (fun x40 h => ?_)
        refine q_goto C (tgt := 20) dX6_read_43 (by decide) ?_
        exact q_sub [0, 1, 2] rfl (ih.1 x40 σ39 h)
    · intro  σ h
      rw [fX6_read_L] at h
      rw [if_neg (by decide)] at h
      refine q_aload_n C dX6_read_123 rfl 0 rfl ?_
      refine q_get C (Cn := RX6) (T := TX6) (Nf := 60) (ci := 6) (id := 0) (k := 13) (v := .int (σ.1 0 13)) nX6_read_X6 (by decide) (ceM_0 ad cy _ _ _) rfl (by decide) rfl hX6_read_188 dX6_read_124 ?_
      refine q_join (G := fun (y145 : St) => qVi ceM 42 ad cy X A D p l e (headSpec wsX6_read rmX6_read).room s m args below meth c 3 r0 σ0 145 [(0, .ref (ad 0)), (1, .int a1)] [] y145) h (fun y145 h => ?_) (fun j145 hj145 h => ?_)
      · refine q_aload_n C dX6_read_145 rfl 0 rfl ?_
        refine q_aload_n C dX6_read_146 rfl 0 rfl ?_
        refine q_get C (Cn := RX6) (T := TX6) (Nf := 60) (ci := 6) (id := 0) (k := 13) (v := .int (y145.1 0 13)) nX6_read_X6 (by decide) (ceM_0 ad cy _ _ _) rfl (by decide) rfl hX6_read_188 dX6_read_147 ?_
        refine q_join (G := fun (y161 : Int32) => qVi ceM 42 ad cy X A D p l e (headSpec wsX6_read rmX6_read).room s m args below meth c 3 r0 σ0 161 [(0, .ref (ad 0)), (1, .int a1)] [.int y161, .ref (ad 0)] y145) h (fun y161 h => ?_) (fun j161 hj161 h => ?_)
        · refine q_put C (Cn := RX6) (T := TX6) (ty0 := tyX6) (Nf := 60) (ci := 6) (id := 0) (k := 17) (y := 0) tyX6_ok nmX6 nX6_read_X6 (by decide) (ceM_0 ad cy _ _ _) (ceM_0 ad cy _ _ _) rfl (by decide) rfl (by decide +kernel) (Nat.le_of_ble_eq_true rfl) hX6_read_37 dX6_read_161 h (fun σ161 h => ?_)
          refine q_aload_n C dX6_read_164 rfl 0 rfl ?_
          refine q_get C (Cn := RX6) (T := TX6) (Nf := 60) (ci := 6) (id := 0) (k := 13) (v := .int (σ161.1 0 13)) nX6_read_X6 (by decide) (ceM_0 ad cy _ _ _) rfl (by decide) rfl hX6_read_188 dX6_read_165 ?_
          refine q_if_le C (tgt := 176) dX6_read_168 (by decide) h (fun h => ?_) (fun h => ?_)
          · refine q_aload_n C dX6_read_176 rfl 0 rfl ?_
            refine q_get C (Cn := RX6) (T := TX6) (Nf := 60) (ci := 6) (id := 0) (k := 18) (v := .ref (ad 8)) nX6_read_X6 (by decide) (ceM_0 ad cy _ _ _) rfl (by decide) rfl hX6_read_40 dX6_read_177 ?_
            refine q_iload_n C dX6_read_180 rfl 1 rfl ?_
            refine q_iconst C (v := 1) dX6_read_181 (by decide) ?_
            refine q_aload_n C dX6_read_182 rfl 0 rfl ?_
            refine q_get C (Cn := RX6) (T := TX6) (Nf := 60) (ci := 6) (id := 0) (k := 18) (v := .ref (ad 8)) nX6_read_X6 (by decide) (ceM_0 ad cy _ _ _) rfl (by decide) rfl hX6_read_40 dX6_read_183 ?_
            refine q_iload_n C dX6_read_186 rfl 1 rfl ?_
            refine q_iald C (id := 8) (by decide) (ceM_8 ad cy _ _ _) dX6_read_187 h (fun h => ?_)
            refine q_isub C dX6_read_188 ?_
            refine q_iast C (id := 8) (by decide) (fun f g => ceM_8 ad cy _ f g) dX6_read_189 h (fun σ189 h => ?_)
            refine q_aload_n C dX6_read_190 rfl 0 rfl ?_
            refine q_iconst C (v := -1) dX6_read_191 (by decide) ?_
            refine q_put C (Cn := RX6) (T := TX6) (ty0 := tyX6) (Nf := 60) (ci := 6) (id := 0) (k := 49) (y := 0) tyX6_ok nmX6 nX6_read_X6 (by decide) (ceM_0 ad cy _ _ _) (ceM_0 ad cy _ _ _) rfl (by decide) rfl (by decide +kernel) (Nat.le_of_ble_eq_true rfl) hX6_read_113 dX6_read_192 h (fun σ192 h => ?_)
            refine q_iconst C (v := 0) dX6_read_195 (by decide) ?_
            exact q_iret C rfl dX6_read_196 h
          · refine q_aload_n C dX6_read_171 rfl 0 rfl ?_
            refine q_get C (Cn := RX6) (T := TX6) (Nf := 60) (ci := 6) (id := 0) (k := 13) (v := .int (σ161.1 0 13)) nX6_read_X6 (by decide) (ceM_0 ad cy _ _ _) rfl (by decide) rfl hX6_read_188 dX6_read_172 ?_
            exact q_iret C rfl dX6_read_175 h
        refine q_if_le C (tgt := 160) dX6_read_150 (by decide) h (fun h => ?_) (fun h => ?_)
        · refine q_iconst C (v := -1) dX6_read_160 (by decide) ?_
          exact q_sub [0, 1] rfl (hj161 (-1 : Int32) h)
        · refine q_aload_n C dX6_read_153 rfl 0 rfl ?_
          refine q_get C (Cn := RX6) (T := TX6) (Nf := 60) (ci := 6) (id := 0) (k := 14) (v := .int (y145.1 0 14)) nX6_read_X6 (by decide) (ceM_0 ad cy _ _ _) rfl (by decide) rfl hX6_read_194 dX6_read_154 ?_
          refine q_goto C (tgt := 161) dX6_read_157 (by decide) ?_
          exact q_sub [0, 1] rfl (hj161 (y145.1 0 14) h)
      refine q_if_ne C (tgt := 145) dX6_read_127 (by decide) h (fun h => ?_) (fun h => ?_)
      · exact q_sub [0, 1] rfl (hj145 σ h)
      · refine q_aload_n C dX6_read_130 rfl 0 rfl ?_
        refine q_iconst C (v := 0) dX6_read_131 (by decide) ?_
        refine q_callVi C (rm := rmX6_is) (As := [.int (0 : Int32)]) (rest := []) (id := 0) (ci := 6) (fun r9 σ9 h9 => kX6_is l D ad cy X A zs σ (0 : Int32) r9 σ9 h9) gX6_read_X6_is rfl rfl rfl hyX6_is ⟨Nat.le_of_ble_eq_true rfl, Nat.le_of_ble_eq_true rfl⟩ (by decide) (ceM_0 ad cy _ _ _) rfl rfl rfl (Nat.le_of_ble_eq_true rfl) dX6_read_132 ⟨Nat.zero_le _, Nat.zero_le _⟩ h (fun r132 σ132 h => ?_)
        refine q_if_ne C (tgt := 145) dX6_read_135 (by decide) h (fun h => ?_) (fun h => ?_)
        · exact q_sub [0, 1] rfl (hj145 σ132 h)
        · refine q_aload_n C dX6_read_138 rfl 0 rfl ?_
          refine q_callVv C (rm := rmX6_tellRule) (As := []) (rest := []) (id := 0) (ci := 6) (fun r9 σ9 h9 => kX6_tellRule l D ad cy X A zs σ132 r9 σ9 h9) gX6_read_X6_tellRule rfl rfl rfl hyX6_tellRule ⟨Nat.le_of_ble_eq_true rfl, Nat.le_of_ble_eq_true rfl⟩ (by decide) (ceM_0 ad cy _ _ _) rfl rfl rfl (Nat.le_of_ble_eq_true rfl) dX6_read_139 ⟨Nat.zero_le _, Nat.zero_le _⟩ h (fun r139 σ139 h => ?_)
          refine q_goto C (tgt := 123) dX6_read_142 (by decide) ?_
          exact q_sub [0, 1] rfl (ih.2 σ139 h)
set_option maxHeartbeats 4000000 in
set_option maxRecDepth 100000 in
theorem kX6_read (l : Launch) (D : va_G) (ad : Nat → Nat) (cy : Nat → ClassId) (X : va_W) (A : Nat → Prop) (zs : Nat × Nat × Option Nat) (σ : St) (a1 : Int32) (r0 : Int32) (σ0 : St) (h : fX6_read σ a1 = some (r0, σ0)) : Met l yX6_read wsX6_read rmX6_read (qPc ceM 42 ad cy X A D zs [.ref (ad 0), .int a1] σ) (qQi ceM 42 ad cy X A D r0 σ0) 0 0 A := by
  refine Met.ofW (cc := cX6_read) (maxL := 3) (ret := (some .int)) (by decide) rfl ?_
  intro p e s m args below meth c s₁ B hml hv
  obtain ⟨ha, hP, hK, hE, hD⟩ := hv
  have C : qC ceM 42 ad cy X A D zs cX6_read 3 RX6 wsX6_read p s m args meth c (some .int) := ⟨B.exec, B.bytes, hml, findClass_of_methodNamed B.named, atoms_spec (ws := wsX6_read) B.pre, hK, hD, B.returns, B.notSynchronized, hE⟩
  rw [show entryFrame m args 3 = entryFrame m ([.ref (ad 0), .int a1] : List Value).toArray 3 by rw [ha]]
  refine q_entry (A := A) (Nat.le_of_ble_eq_true rfl) hP (lv := [(0, .ref (ad 0)), (1, .int a1)]) rfl ?_
  unfold fX6_read at h
  refine q_aload_n C dX6_read_0 rfl 0 rfl ?_
  refine q_iload_n C dX6_read_1 rfl 1 rfl ?_
  refine q_callVi C (rm := rmX6_isLand) (As := [.int a1]) (rest := []) (id := 0) (ci := 6) (fun r9 σ9 h9 => kX6_isLand l D ad cy X A zs σ a1 r9 σ9 h9) gX6_read_X6_isLand rfl rfl rfl hyX6_isLand ⟨Nat.le_of_ble_eq_true rfl, Nat.le_of_ble_eq_true rfl⟩ (by decide) (ceM_0 ad cy _ _ _) rfl rfl rfl (Nat.le_of_ble_eq_true rfl) dX6_read_2 ⟨Nat.zero_le _, Nat.zero_le _⟩ h (fun r2 σ2 h => ?_)
  refine q_if_ne C (tgt := 10) dX6_read_5 (by decide) h (fun h => ?_) (fun h => ?_)
  · refine q_aload_n C dX6_read_10 rfl 0 rfl ?_
    refine q_aload_n C dX6_read_11 rfl 0 rfl ?_
    refine q_get C (Cn := RX6) (T := TX6) (Nf := 60) (ci := 6) (id := 0) (k := 2) (v := .int (σ2.1 0 2)) nX6_read_X6 (by decide) (ceM_0 ad cy _ _ _) rfl (by decide) rfl hX6_read_150 dX6_read_12 ?_
    refine q_put C (Cn := RX6) (T := TX6) (ty0 := tyX6) (Nf := 60) (ci := 6) (id := 0) (k := 4) (y := 0) tyX6_ok nmX6 nX6_read_X6 (by decide) (ceM_0 ad cy _ _ _) (ceM_0 ad cy _ _ _) rfl (by decide) rfl (by decide +kernel) (Nat.le_of_ble_eq_true rfl) hX6_read_157 dX6_read_15 h (fun σ15 h => ?_)
    refine q_iconst C (v := 0) dX6_read_18 (by decide) ?_
    refine q_istore_n C dX6_read_19 rfl (by decide) (lv' := [(0, .ref (ad 0)), (1, .int a1), (2, .int (0 : Int32))]) rfl ?_
    exact q_sub [0, 1, 2] rfl ((kX6_read_L C r0 σ0 100000).1 (0 : Int32) σ15 h)
  · refine q_iconst C (v := -1) dX6_read_8 (by decide) ?_
    exact q_iret C rfl dX6_read_9 h
abbrev rmX6_place : Room := { frames := 0, cells := 0, slots := 0, locals := 0 }
theorem hyX6_place : yX6_place.cls = RX6 ∧ yX6_place.cls ≠ "java/lang/invoke/MethodHandle" ∧ yX6_place.cls ≠ "java/lang/invoke/VarHandle" ∧ (parseMethodDescriptor yX6_place.desc).map (fun d => d.parameters.length) = some 0 := by decide +kernel
theorem nX6_place_X6 : ∀ w ∈ u_ws RX6 TX6 60, w ∈ wsX6_place := fun w h => List.mem_cons_of_mem _ (List.mem_append_right _ h)
theorem hX6_place_37 : Cond.fieldLink RX6 37 (TX6 17).1 (TX6 17).2.1 (TX6 17).2.2.1 ∈ wsX6_place := by decide +kernel
def fX6_place (σ : St) : Option (Int32 × St) := some ((σ.1 0 17), σ)
set_option maxHeartbeats 4000000 in
set_option maxRecDepth 100000 in
theorem kX6_place (l : Launch) (D : va_G) (ad : Nat → Nat) (cy : Nat → ClassId) (X : va_W) (A : Nat → Prop) (zs : Nat × Nat × Option Nat) (σ : St) (r0 : Int32) (σ0 : St) (h : fX6_place σ = some (r0, σ0)) : Met l yX6_place wsX6_place rmX6_place (qPc ceM 42 ad cy X A D zs [.ref (ad 0)] σ) (qQi ceM 42 ad cy X A D r0 σ0) 0 0 A := by
  refine Met.ofW (cc := cX6_place) (maxL := 1) (ret := (some .int)) (by decide) rfl ?_
  intro p e s m args below meth c s₁ B hml hv
  obtain ⟨ha, hP, hK, hE, hD⟩ := hv
  have C : qC ceM 42 ad cy X A D zs cX6_place 1 RX6 wsX6_place p s m args meth c (some .int) := ⟨B.exec, B.bytes, hml, findClass_of_methodNamed B.named, atoms_spec (ws := wsX6_place) B.pre, hK, hD, B.returns, B.notSynchronized, hE⟩
  rw [show entryFrame m args 1 = entryFrame m ([.ref (ad 0)] : List Value).toArray 1 by rw [ha]]
  refine q_entry (A := A) (Nat.le_of_ble_eq_true rfl) hP (lv := [(0, .ref (ad 0))]) rfl ?_
  unfold fX6_place at h
  refine q_aload_n C dX6_place_0 rfl 0 rfl ?_
  refine q_get C (Cn := RX6) (T := TX6) (Nf := 60) (ci := 6) (id := 0) (k := 17) (v := .int (σ.1 0 17)) nX6_place_X6 (by decide) (ceM_0 ad cy _ _ _) rfl (by decide) rfl hX6_place_37 dX6_place_1 ?_
  exact q_iret C rfl dX6_place_4 h
abbrev rmX6_isWitness : Room := { frames := 0, cells := 0, slots := 0, locals := 0 }
theorem hyX6_isWitness : yX6_isWitness.cls = RX6 ∧ yX6_isWitness.cls ≠ "java/lang/invoke/MethodHandle" ∧ yX6_isWitness.cls ≠ "java/lang/invoke/VarHandle" ∧ (parseMethodDescriptor yX6_isWitness.desc).map (fun d => d.parameters.length) = some 1 := by decide +kernel
theorem nX6_isWitness_X6 : ∀ w ∈ u_ws RX6 TX6 60, w ∈ wsX6_isWitness := fun w h => List.mem_cons_of_mem _ (List.mem_append_right _ h)
theorem hX6_isWitness_253 : Cond.fieldLink RX6 253 (TX6 43).1 (TX6 43).2.1 (TX6 43).2.2.1 ∈ wsX6_isWitness := by decide +kernel
def fX6_isWitness (σ : St) (a1 : Int32) : Option (Int32 × St) := qlet (fun (y17 : Int32) => (qzz y17 (some (y17, σ)))) (fun j17 => (qlet (fun (y16 : Unit) => (j17 (0 : Int32))) (fun j16 => (if a1 < (0 : Int32) then (j16 ()) else (if (σ.1 0 43) ≤ a1 then (j16 ()) else (j17 (1 : Int32)))))))
set_option maxHeartbeats 4000000 in
set_option maxRecDepth 100000 in
theorem kX6_isWitness (l : Launch) (D : va_G) (ad : Nat → Nat) (cy : Nat → ClassId) (X : va_W) (A : Nat → Prop) (zs : Nat × Nat × Option Nat) (σ : St) (a1 : Int32) (r0 : Int32) (σ0 : St) (h : fX6_isWitness σ a1 = some (r0, σ0)) : Met l yX6_isWitness wsX6_isWitness rmX6_isWitness (qPc ceM 42 ad cy X A D zs [.ref (ad 0), .int a1] σ) (qQi ceM 42 ad cy X A D r0 σ0) 0 0 A := by
  refine Met.ofW (cc := cX6_isWitness) (maxL := 2) (ret := (some .boolean)) (by decide) rfl ?_
  intro p e s m args below meth c s₁ B hml hv
  obtain ⟨ha, hP, hK, hE, hD⟩ := hv
  have C : qC ceM 42 ad cy X A D zs cX6_isWitness 2 RX6 wsX6_isWitness p s m args meth c (some .boolean) := ⟨B.exec, B.bytes, hml, findClass_of_methodNamed B.named, atoms_spec (ws := wsX6_isWitness) B.pre, hK, hD, B.returns, B.notSynchronized, hE⟩
  rw [show entryFrame m args 2 = entryFrame m ([.ref (ad 0), .int a1] : List Value).toArray 2 by rw [ha]]
  refine q_entry (A := A) (Nat.le_of_ble_eq_true rfl) hP (lv := [(0, .ref (ad 0)), (1, .int a1)]) rfl ?_
  unfold fX6_isWitness at h
  refine q_iload_n C dX6_isWitness_0 rfl 1 rfl ?_
  refine q_join (G := fun (y17 : Int32) => qVi ceM 42 ad cy X A D p l e (headSpec wsX6_isWitness rmX6_isWitness).room s m args below meth c 2 r0 σ0 17 [] [.int y17] σ) h (fun y17 h => ?_) (fun j17 hj17 h => ?_)
  · exact q_zret C rfl dX6_isWitness_17 h
  refine q_join (G := fun (y16 : Unit) => qVi ceM 42 ad cy X A D p l e (headSpec wsX6_isWitness rmX6_isWitness).room s m args below meth c 2 r0 σ0 16 [] [] σ) h (fun y16 h => ?_) (fun j16 hj16 h => ?_)
  · refine q_iconst C (v := 0) dX6_isWitness_16 (by decide) ?_
    exact q_sub [] rfl (hj17 (0 : Int32) h)
  refine q_if_lt C (tgt := 16) dX6_isWitness_1 (by decide) h (fun h => ?_) (fun h => ?_)
  · exact q_sub [] rfl (hj16 () h)
  · refine q_iload_n C dX6_isWitness_4 rfl 1 rfl ?_
    refine q_aload_n C dX6_isWitness_5 rfl 0 rfl ?_
    refine q_get C (Cn := RX6) (T := TX6) (Nf := 60) (ci := 6) (id := 0) (k := 43) (v := .int (σ.1 0 43)) nX6_isWitness_X6 (by decide) (ceM_0 ad cy _ _ _) rfl (by decide) rfl hX6_isWitness_253 dX6_isWitness_6 ?_
    refine q_icmp_ge C (tgt := 16) dX6_isWitness_9 (by decide) h (fun h => ?_) (fun h => ?_)
    · exact q_sub [] rfl (hj16 () h)
    · refine q_iconst C (v := 1) dX6_isWitness_12 (by decide) ?_
      refine q_goto C (tgt := 17) dX6_isWitness_13 (by decide) ?_
      exact q_sub [] rfl (hj17 (1 : Int32) h)
abbrev rmX6_isEvening : Room := { frames := 0, cells := 0, slots := 0, locals := 0 }
theorem hyX6_isEvening : yX6_isEvening.cls ≠ "java/lang/invoke/MethodHandle" ∧ yX6_isEvening.cls ≠ "java/lang/invoke/VarHandle" ∧ (parseMethodDescriptor yX6_isEvening.desc).map (fun d => d.parameters.length) = some 1 := by decide +kernel
def fX6_isEvening (σ : St) (a0 : Int32) : Option (Int32 × St) := qlet (fun (y16 : Int32) => (qzz y16 (some (y16, σ)))) (fun j16 => (qlet (fun (y15 : Unit) => (j16 (0 : Int32))) (fun j15 => (if a0 < (0 : Int32) then (j15 ()) else (if (400 : Int32) ≤ a0 then (j15 ()) else (j16 (1 : Int32)))))))
set_option maxHeartbeats 4000000 in
set_option maxRecDepth 100000 in
theorem kX6_isEvening (l : Launch) (D : va_G) (ad : Nat → Nat) (cy : Nat → ClassId) (X : va_W) (A : Nat → Prop) (zs : Nat × Nat × Option Nat) (σ : St) (a0 : Int32) (r0 : Int32) (σ0 : St) (h : fX6_isEvening σ a0 = some (r0, σ0)) : Met l yX6_isEvening wsX6_isEvening rmX6_isEvening (qPc ceM 42 ad cy X A D zs [.int a0] σ) (qQi ceM 42 ad cy X A D r0 σ0) 0 0 A := by
  refine Met.ofW (cc := cX6_isEvening) (maxL := 1) (ret := (some .boolean)) (by decide) rfl ?_
  intro p e s m args below meth c s₁ B hml hv
  obtain ⟨ha, hP, hK, hE, hD⟩ := hv
  have C : qC ceM 42 ad cy X A D zs cX6_isEvening 1 RX6 wsX6_isEvening p s m args meth c (some .boolean) := ⟨B.exec, B.bytes, hml, findClass_of_methodNamed B.named, atoms_spec (ws := wsX6_isEvening) B.pre, hK, hD, B.returns, B.notSynchronized, hE⟩
  rw [show entryFrame m args 1 = entryFrame m ([.int a0] : List Value).toArray 1 by rw [ha]]
  refine q_entry (A := A) (Nat.le_of_ble_eq_true rfl) hP (lv := [(0, .int a0)]) rfl ?_
  unfold fX6_isEvening at h
  refine q_iload_n C dX6_isEvening_0 rfl 0 rfl ?_
  refine q_join (G := fun (y16 : Int32) => qVi ceM 42 ad cy X A D p l e (headSpec wsX6_isEvening rmX6_isEvening).room s m args below meth c 1 r0 σ0 16 [] [.int y16] σ) h (fun y16 h => ?_) (fun j16 hj16 h => ?_)
  · exact q_zret C rfl dX6_isEvening_16 h
  refine q_join (G := fun (y15 : Unit) => qVi ceM 42 ad cy X A D p l e (headSpec wsX6_isEvening rmX6_isEvening).room s m args below meth c 1 r0 σ0 15 [] [] σ) h (fun y15 h => ?_) (fun j15 hj15 h => ?_)
  · refine q_iconst C (v := 0) dX6_isEvening_15 (by decide) ?_
    exact q_sub [] rfl (hj16 (0 : Int32) h)
  refine q_if_lt C (tgt := 15) dX6_isEvening_1 (by decide) h (fun h => ?_) (fun h => ?_)
  · exact q_sub [] rfl (hj15 () h)
  · refine q_iload_n C dX6_isEvening_4 rfl 0 rfl ?_
    refine q_sipush C (v := 400) dX6_isEvening_5 (by decide) ?_
    refine q_icmp_ge C (tgt := 15) dX6_isEvening_8 (by decide) h (fun h => ?_) (fun h => ?_)
    · exact q_sub [] rfl (hj15 () h)
    · refine q_iconst C (v := 1) dX6_isEvening_11 (by decide) ?_
      refine q_goto C (tgt := 16) dX6_isEvening_12 (by decide) ?_
      exact q_sub [] rfl (hj16 (1 : Int32) h)
abbrev rmX6_isKnown : Room := { frames := 0, cells := 0, slots := 0, locals := 0 }
theorem hyX6_isKnown : yX6_isKnown.cls = RX6 ∧ yX6_isKnown.cls ≠ "java/lang/invoke/MethodHandle" ∧ yX6_isKnown.cls ≠ "java/lang/invoke/VarHandle" ∧ (parseMethodDescriptor yX6_isKnown.desc).map (fun d => d.parameters.length) = some 1 := by decide +kernel
theorem nX6_isKnown_X6 : ∀ w ∈ u_ws RX6 TX6 60, w ∈ wsX6_isKnown := fun w h => List.mem_cons_of_mem _ (List.mem_append_right _ h)
theorem hX6_isKnown_256 : Cond.fieldLink RX6 256 (TX6 45).1 (TX6 45).2.1 (TX6 45).2.2.1 ∈ wsX6_isKnown := by decide +kernel
def fX6_isKnown (σ : St) (a1 : Int32) : Option (Int32 × St) := qlet (fun (y17 : Int32) => (qzz y17 (some (y17, σ)))) (fun j17 => (qlet (fun (y16 : Unit) => (j17 (0 : Int32))) (fun j16 => (if a1 < (0 : Int32) then (j16 ()) else (if (σ.1 0 45) < a1 then (j16 ()) else (j17 (1 : Int32)))))))
set_option maxHeartbeats 4000000 in
set_option maxRecDepth 100000 in
theorem kX6_isKnown (l : Launch) (D : va_G) (ad : Nat → Nat) (cy : Nat → ClassId) (X : va_W) (A : Nat → Prop) (zs : Nat × Nat × Option Nat) (σ : St) (a1 : Int32) (r0 : Int32) (σ0 : St) (h : fX6_isKnown σ a1 = some (r0, σ0)) : Met l yX6_isKnown wsX6_isKnown rmX6_isKnown (qPc ceM 42 ad cy X A D zs [.ref (ad 0), .int a1] σ) (qQi ceM 42 ad cy X A D r0 σ0) 0 0 A := by
  refine Met.ofW (cc := cX6_isKnown) (maxL := 2) (ret := (some .boolean)) (by decide) rfl ?_
  intro p e s m args below meth c s₁ B hml hv
  obtain ⟨ha, hP, hK, hE, hD⟩ := hv
  have C : qC ceM 42 ad cy X A D zs cX6_isKnown 2 RX6 wsX6_isKnown p s m args meth c (some .boolean) := ⟨B.exec, B.bytes, hml, findClass_of_methodNamed B.named, atoms_spec (ws := wsX6_isKnown) B.pre, hK, hD, B.returns, B.notSynchronized, hE⟩
  rw [show entryFrame m args 2 = entryFrame m ([.ref (ad 0), .int a1] : List Value).toArray 2 by rw [ha]]
  refine q_entry (A := A) (Nat.le_of_ble_eq_true rfl) hP (lv := [(0, .ref (ad 0)), (1, .int a1)]) rfl ?_
  unfold fX6_isKnown at h
  refine q_iload_n C dX6_isKnown_0 rfl 1 rfl ?_
  refine q_join (G := fun (y17 : Int32) => qVi ceM 42 ad cy X A D p l e (headSpec wsX6_isKnown rmX6_isKnown).room s m args below meth c 2 r0 σ0 17 [] [.int y17] σ) h (fun y17 h => ?_) (fun j17 hj17 h => ?_)
  · exact q_zret C rfl dX6_isKnown_17 h
  refine q_join (G := fun (y16 : Unit) => qVi ceM 42 ad cy X A D p l e (headSpec wsX6_isKnown rmX6_isKnown).room s m args below meth c 2 r0 σ0 16 [] [] σ) h (fun y16 h => ?_) (fun j16 hj16 h => ?_)
  · refine q_iconst C (v := 0) dX6_isKnown_16 (by decide) ?_
    exact q_sub [] rfl (hj17 (0 : Int32) h)
  refine q_if_lt C (tgt := 16) dX6_isKnown_1 (by decide) h (fun h => ?_) (fun h => ?_)
  · exact q_sub [] rfl (hj16 () h)
  · refine q_iload_n C dX6_isKnown_4 rfl 1 rfl ?_
    refine q_aload_n C dX6_isKnown_5 rfl 0 rfl ?_
    refine q_get C (Cn := RX6) (T := TX6) (Nf := 60) (ci := 6) (id := 0) (k := 45) (v := .int (σ.1 0 45)) nX6_isKnown_X6 (by decide) (ceM_0 ad cy _ _ _) rfl (by decide) rfl hX6_isKnown_256 dX6_isKnown_6 ?_
    refine q_icmp_gt C (tgt := 16) dX6_isKnown_9 (by decide) h (fun h => ?_) (fun h => ?_)
    · exact q_sub [] rfl (hj16 () h)
    · refine q_iconst C (v := 1) dX6_isKnown_12 (by decide) ?_
      refine q_goto C (tgt := 17) dX6_isKnown_13 (by decide) ?_
      exact q_sub [] rfl (hj17 (1 : Int32) h)
abbrev rmX6_moon : Room := { frames := 0, cells := 0, slots := 0, locals := 0 }
theorem hyX6_moon : yX6_moon.cls = RX6 ∧ yX6_moon.cls ≠ "java/lang/invoke/MethodHandle" ∧ yX6_moon.cls ≠ "java/lang/invoke/VarHandle" ∧ (parseMethodDescriptor yX6_moon.desc).map (fun d => d.parameters.length) = some 1 := by decide +kernel
theorem nX6_moon_X6 : ∀ w ∈ u_ws RX6 TX6 60, w ∈ wsX6_moon := by decide +kernel
theorem hX6_moon_259 : Cond.fieldLink RX6 259 (TX6 35).1 (TX6 35).2.1 (TX6 35).2.2.1 ∈ wsX6_moon := by decide +kernel
theorem hX6_moon_83 : Cond.fieldLink RX6 83 (TX6 36).1 (TX6 36).2.1 (TX6 36).2.2.1 ∈ wsX6_moon := by decide +kernel
theorem hX6_moon_113 : Cond.fieldLink RX6 113 (TX6 49).1 (TX6 49).2.1 (TX6 49).2.2.1 ∈ wsX6_moon := by decide +kernel
def fX6_moon (σ : St) (a1 : Int32) : Option (Int32 × St) := qlet (fun (y42 : Unit) => (some ((-1 : Int32), σ))) (fun j42 => (if (σ.1 0 35) = (14 : Int32) then (j42 ()) else (if a1 < (0 : Int32) then (j42 ()) else (if (9999 : Int32) < a1 then (j42 ()) else (qlet (fun (y44 : Unit) => (qix (σ.1 0 35) 14 (qlet (sI σ 22 (σ.1 0 35).toNatClampNeg a1) (fun σ53 => qlet (sI σ53 0 35 ((σ53.1 0 35) + (1 : Int32))) (fun σ61 => qlet (sI σ61 0 49 (-1 : Int32)) (fun σ66 => some (((σ66.1 0 35) - (1 : Int32)), σ66))))))) (fun j44 => (if (σ.1 0 35) ≤ (0 : Int32) then (j44 ()) else (qix ((σ.1 0 35) - (1 : Int32)) 14 (if (σ.1 22 ((σ.1 0 35) - (1 : Int32)).toNatClampNeg) < a1 then (j44 ()) else (j42 ()))))))))))
set_option maxHeartbeats 4000000 in
set_option maxRecDepth 100000 in
theorem kX6_moon (l : Launch) (D : va_G) (ad : Nat → Nat) (cy : Nat → ClassId) (X : va_W) (A : Nat → Prop) (zs : Nat × Nat × Option Nat) (σ : St) (a1 : Int32) (r0 : Int32) (σ0 : St) (h : fX6_moon σ a1 = some (r0, σ0)) : Met l yX6_moon wsX6_moon rmX6_moon (qPc ceM 42 ad cy X A D zs [.ref (ad 0), .int a1] σ) (qQi ceM 42 ad cy X A D r0 σ0) 0 0 A := by
  refine Met.ofW (cc := cX6_moon) (maxL := 2) (ret := (some .int)) (by decide) rfl ?_
  intro p e s m args below meth c s₁ B hml hv
  obtain ⟨ha, hP, hK, hE, hD⟩ := hv
  have C : qC ceM 42 ad cy X A D zs cX6_moon 2 RX6 wsX6_moon p s m args meth c (some .int) := ⟨B.exec, B.bytes, hml, findClass_of_methodNamed B.named, atoms_spec (ws := wsX6_moon) B.pre, hK, hD, B.returns, B.notSynchronized, hE⟩
  rw [show entryFrame m args 2 = entryFrame m ([.ref (ad 0), .int a1] : List Value).toArray 2 by rw [ha]]
  refine q_entry (A := A) (Nat.le_of_ble_eq_true rfl) hP (lv := [(0, .ref (ad 0)), (1, .int a1)]) rfl ?_
  unfold fX6_moon at h
  refine q_aload_n C dX6_moon_0 rfl 0 rfl ?_
  refine q_get C (Cn := RX6) (T := TX6) (Nf := 60) (ci := 6) (id := 0) (k := 35) (v := .int (σ.1 0 35)) nX6_moon_X6 (by decide) (ceM_0 ad cy _ _ _) rfl (by decide) rfl hX6_moon_259 dX6_moon_1 ?_
  refine q_bipush C (v := 14) dX6_moon_4 (by decide) ?_
  refine q_join (G := fun (y42 : Unit) => qVi ceM 42 ad cy X A D p l e (headSpec wsX6_moon rmX6_moon).room s m args below meth c 2 r0 σ0 42 [] [] σ) h (fun y42 h => ?_) (fun j42 hj42 h => ?_)
  · refine q_iconst C (v := -1) dX6_moon_42 (by decide) ?_
    exact q_iret C rfl dX6_moon_43 h
  refine q_icmp_eq C (tgt := 42) dX6_moon_6 (by decide) h (fun h => ?_) (fun h => ?_)
  · exact q_sub [] rfl (hj42 () h)
  · refine q_iload_n C dX6_moon_9 rfl 1 rfl ?_
    refine q_if_lt C (tgt := 42) dX6_moon_10 (by decide) h (fun h => ?_) (fun h => ?_)
    · exact q_sub [] rfl (hj42 () h)
    · refine q_iload_n C dX6_moon_13 rfl 1 rfl ?_
      refine q_sipush C (v := 9999) dX6_moon_14 (by decide) ?_
      refine q_icmp_gt C (tgt := 42) dX6_moon_17 (by decide) h (fun h => ?_) (fun h => ?_)
      · exact q_sub [] rfl (hj42 () h)
      · refine q_aload_n C dX6_moon_20 rfl 0 rfl ?_
        refine q_get C (Cn := RX6) (T := TX6) (Nf := 60) (ci := 6) (id := 0) (k := 35) (v := .int (σ.1 0 35)) nX6_moon_X6 (by decide) (ceM_0 ad cy _ _ _) rfl (by decide) rfl hX6_moon_259 dX6_moon_21 ?_
        refine q_join (G := fun (y44 : Unit) => qVi ceM 42 ad cy X A D p l e (headSpec wsX6_moon rmX6_moon).room s m args below meth c 2 r0 σ0 44 [(0, .ref (ad 0)), (1, .int a1)] [] σ) h (fun y44 h => ?_) (fun j44 hj44 h => ?_)
        · refine q_aload_n C dX6_moon_44 rfl 0 rfl ?_
          refine q_get C (Cn := RX6) (T := TX6) (Nf := 60) (ci := 6) (id := 0) (k := 36) (v := .ref (ad 22)) nX6_moon_X6 (by decide) (ceM_0 ad cy _ _ _) rfl (by decide) rfl hX6_moon_83 dX6_moon_45 ?_
          refine q_aload_n C dX6_moon_48 rfl 0 rfl ?_
          refine q_get C (Cn := RX6) (T := TX6) (Nf := 60) (ci := 6) (id := 0) (k := 35) (v := .int (σ.1 0 35)) nX6_moon_X6 (by decide) (ceM_0 ad cy _ _ _) rfl (by decide) rfl hX6_moon_259 dX6_moon_49 ?_
          refine q_iload_n C dX6_moon_52 rfl 1 rfl ?_
          refine q_iast C (id := 22) (by decide) (fun f g => ceM_22 ad cy _ f g) dX6_moon_53 h (fun σ53 h => ?_)
          refine q_aload_n C dX6_moon_54 rfl 0 rfl ?_
          refine q_dup C dX6_moon_55 rfl ?_
          refine q_get C (Cn := RX6) (T := TX6) (Nf := 60) (ci := 6) (id := 0) (k := 35) (v := .int (σ53.1 0 35)) nX6_moon_X6 (by decide) (ceM_0 ad cy _ _ _) rfl (by decide) rfl hX6_moon_259 dX6_moon_56 ?_
          refine q_iconst C (v := 1) dX6_moon_59 (by decide) ?_
          refine q_iadd C dX6_moon_60 ?_
          refine q_put C (Cn := RX6) (T := TX6) (ty0 := tyX6) (Nf := 60) (ci := 6) (id := 0) (k := 35) (y := 0) tyX6_ok nmX6 nX6_moon_X6 (by decide) (ceM_0 ad cy _ _ _) (ceM_0 ad cy _ _ _) rfl (by decide) rfl (by decide +kernel) (Nat.le_of_ble_eq_true rfl) hX6_moon_259 dX6_moon_61 h (fun σ61 h => ?_)
          refine q_aload_n C dX6_moon_64 rfl 0 rfl ?_
          refine q_iconst C (v := -1) dX6_moon_65 (by decide) ?_
          refine q_put C (Cn := RX6) (T := TX6) (ty0 := tyX6) (Nf := 60) (ci := 6) (id := 0) (k := 49) (y := 0) tyX6_ok nmX6 nX6_moon_X6 (by decide) (ceM_0 ad cy _ _ _) (ceM_0 ad cy _ _ _) rfl (by decide) rfl (by decide +kernel) (Nat.le_of_ble_eq_true rfl) hX6_moon_113 dX6_moon_66 h (fun σ66 h => ?_)
          refine q_aload_n C dX6_moon_69 rfl 0 rfl ?_
          refine q_get C (Cn := RX6) (T := TX6) (Nf := 60) (ci := 6) (id := 0) (k := 35) (v := .int (σ66.1 0 35)) nX6_moon_X6 (by decide) (ceM_0 ad cy _ _ _) rfl (by decide) rfl hX6_moon_259 dX6_moon_70 ?_
          refine q_iconst C (v := 1) dX6_moon_73 (by decide) ?_
          refine q_isub C dX6_moon_74 ?_
          exact q_iret C rfl dX6_moon_75 h
        refine q_if_le C (tgt := 44) dX6_moon_24 (by decide) h (fun h => ?_) (fun h => ?_)
        · exact q_sub [0, 1] rfl (hj44 () h)
        · refine q_iload_n C dX6_moon_27 rfl 1 rfl ?_
          refine q_aload_n C dX6_moon_28 rfl 0 rfl ?_
          refine q_get C (Cn := RX6) (T := TX6) (Nf := 60) (ci := 6) (id := 0) (k := 36) (v := .ref (ad 22)) nX6_moon_X6 (by decide) (ceM_0 ad cy _ _ _) rfl (by decide) rfl hX6_moon_83 dX6_moon_29 ?_
          refine q_aload_n C dX6_moon_32 rfl 0 rfl ?_
          refine q_get C (Cn := RX6) (T := TX6) (Nf := 60) (ci := 6) (id := 0) (k := 35) (v := .int (σ.1 0 35)) nX6_moon_X6 (by decide) (ceM_0 ad cy _ _ _) rfl (by decide) rfl hX6_moon_259 dX6_moon_33 ?_
          refine q_iconst C (v := 1) dX6_moon_36 (by decide) ?_
          refine q_isub C dX6_moon_37 ?_
          refine q_iald C (id := 22) (by decide) (ceM_22 ad cy _ _ _) dX6_moon_38 h (fun h => ?_)
          refine q_icmp_gt C (tgt := 44) dX6_moon_39 (by decide) h (fun h => ?_) (fun h => ?_)
          · exact q_sub [0, 1] rfl (hj44 () h)
          · exact q_sub [] rfl (hj42 () h)
abbrev rmX6_land : Room := { frames := 1, cells := 0, slots := 0, locals := 20 }
theorem hyX6_land : yX6_land.cls = RX6 ∧ yX6_land.cls ≠ "java/lang/invoke/MethodHandle" ∧ yX6_land.cls ≠ "java/lang/invoke/VarHandle" ∧ (parseMethodDescriptor yX6_land.desc).map (fun d => d.parameters.length) = some 2 := by decide +kernel
theorem nX6_land_X6 : ∀ w ∈ u_ws RX6 TX6 60, w ∈ wsX6_land := by decide +kernel
theorem hX6_land_250 : Cond.fieldLink RX6 250 (TX6 37).1 (TX6 37).2.1 (TX6 37).2.2.1 ∈ wsX6_land := by decide +kernel
theorem hX6_land_86 : Cond.fieldLink RX6 86 (TX6 38).1 (TX6 38).2.1 (TX6 38).2.2.1 ∈ wsX6_land := by decide +kernel
theorem hX6_land_89 : Cond.fieldLink RX6 89 (TX6 39).1 (TX6 39).2.1 (TX6 39).2.2.1 ∈ wsX6_land := by decide +kernel
theorem hX6_land_113 : Cond.fieldLink RX6 113 (TX6 49).1 (TX6 49).2.1 (TX6 49).2.2.1 ∈ wsX6_land := by decide +kernel
def fX6_land (σ : St) (a1 : Int32) (a2 : Int32) : Option (Int32 × St) := qlet (fun (y28 : St) => (some ((-1 : Int32), y28))) (fun j28 => (if (σ.1 0 37) = (6 : Int32) then (j28 σ) else (if a1 < (-12 : Int32) then (j28 σ) else (if (12 : Int32) < a1 then (j28 σ) else (qcall (fX6_isEvening σ a2) (fun r22 σ22 => if r22 = (0 : Int32) then (j28 σ22) else (qix (σ22.1 0 37) 6 (qlet (sI σ22 23 (σ22.1 0 37).toNatClampNeg a1) (fun σ39 => qix (σ39.1 0 37) 6 (qlet (sI σ39 24 (σ39.1 0 37).toNatClampNeg a2) (fun σ49 => qlet (sI σ49 0 37 ((σ49.1 0 37) + (1 : Int32))) (fun σ57 => qlet (sI σ57 0 49 (-1 : Int32)) (fun σ62 => some (((σ62.1 0 37) - (1 : Int32)), σ62))))))))))))))
set_option maxHeartbeats 4000000 in
set_option maxRecDepth 100000 in
theorem kX6_land (l : Launch) (D : va_G) (ad : Nat → Nat) (cy : Nat → ClassId) (X : va_W) (A : Nat → Prop) (zs : Nat × Nat × Option Nat) (σ : St) (a1 : Int32) (a2 : Int32) (r0 : Int32) (σ0 : St) (h : fX6_land σ a1 a2 = some (r0, σ0)) : Met l yX6_land wsX6_land rmX6_land (qPc ceM 42 ad cy X A D zs [.ref (ad 0), .int a1, .int a2] σ) (qQi ceM 42 ad cy X A D r0 σ0) 0 0 A := by
  refine Met.ofW (cc := cX6_land) (maxL := 3) (ret := (some .int)) (by decide) rfl ?_
  intro p e s m args below meth c s₁ B hml hv
  obtain ⟨ha, hP, hK, hE, hD⟩ := hv
  have C : qC ceM 42 ad cy X A D zs cX6_land 3 RX6 wsX6_land p s m args meth c (some .int) := ⟨B.exec, B.bytes, hml, findClass_of_methodNamed B.named, atoms_spec (ws := wsX6_land) B.pre, hK, hD, B.returns, B.notSynchronized, hE⟩
  rw [show entryFrame m args 3 = entryFrame m ([.ref (ad 0), .int a1, .int a2] : List Value).toArray 3 by rw [ha]]
  refine q_entry (A := A) (Nat.le_of_ble_eq_true rfl) hP (lv := [(0, .ref (ad 0)), (1, .int a1), (2, .int a2)]) rfl ?_
  unfold fX6_land at h
  refine q_aload_n C dX6_land_0 rfl 0 rfl ?_
  refine q_get C (Cn := RX6) (T := TX6) (Nf := 60) (ci := 6) (id := 0) (k := 37) (v := .int (σ.1 0 37)) nX6_land_X6 (by decide) (ceM_0 ad cy _ _ _) rfl (by decide) rfl hX6_land_250 dX6_land_1 ?_
  refine q_bipush C (v := 6) dX6_land_4 (by decide) ?_
  refine q_join (G := fun (y28 : St) => qVi ceM 42 ad cy X A D p l e (headSpec wsX6_land rmX6_land).room s m args below meth c 3 r0 σ0 28 [] [] y28) h (fun y28 h => ?_) (fun j28 hj28 h => ?_)
  · refine q_iconst C (v := -1) dX6_land_28 (by decide) ?_
    exact q_iret C rfl dX6_land_29 h
  refine q_icmp_eq C (tgt := 28) dX6_land_6 (by decide) h (fun h => ?_) (fun h => ?_)
  · exact q_sub [] rfl (hj28 σ h)
  · refine q_iload_n C dX6_land_9 rfl 1 rfl ?_
    refine q_bipush C (v := -12) dX6_land_10 (by decide) ?_
    refine q_icmp_lt C (tgt := 28) dX6_land_12 (by decide) h (fun h => ?_) (fun h => ?_)
    · exact q_sub [] rfl (hj28 σ h)
    · refine q_iload_n C dX6_land_15 rfl 1 rfl ?_
      refine q_bipush C (v := 12) dX6_land_16 (by decide) ?_
      refine q_icmp_gt C (tgt := 28) dX6_land_18 (by decide) h (fun h => ?_) (fun h => ?_)
      · exact q_sub [] rfl (hj28 σ h)
      · refine q_iload_n C dX6_land_21 rfl 2 rfl ?_
        refine q_callSi C (rm := rmX6_isEvening) (As := [.int a2]) (rest := []) (fun r9 σ9 h9 => kX6_isEvening l D ad cy X A zs σ a2 r9 σ9 h9) gX6_land_X6_isEvening rfl rfl rfl hyX6_isEvening ⟨Nat.le_of_ble_eq_true rfl, Nat.le_of_ble_eq_true rfl⟩ rfl rfl (Nat.le_of_ble_eq_true rfl) dX6_land_22 ⟨Nat.zero_le _, Nat.zero_le _⟩ h (fun r22 σ22 h => ?_)
        refine q_if_ne C (tgt := 30) dX6_land_25 (by decide) h (fun h => ?_) (fun h => ?_)
        · refine q_aload_n C dX6_land_30 rfl 0 rfl ?_
          refine q_get C (Cn := RX6) (T := TX6) (Nf := 60) (ci := 6) (id := 0) (k := 38) (v := .ref (ad 23)) nX6_land_X6 (by decide) (ceM_0 ad cy _ _ _) rfl (by decide) rfl hX6_land_86 dX6_land_31 ?_
          refine q_aload_n C dX6_land_34 rfl 0 rfl ?_
          refine q_get C (Cn := RX6) (T := TX6) (Nf := 60) (ci := 6) (id := 0) (k := 37) (v := .int (σ22.1 0 37)) nX6_land_X6 (by decide) (ceM_0 ad cy _ _ _) rfl (by decide) rfl hX6_land_250 dX6_land_35 ?_
          refine q_iload_n C dX6_land_38 rfl 1 rfl ?_
          refine q_iast C (id := 23) (by decide) (fun f g => ceM_23 ad cy _ f g) dX6_land_39 h (fun σ39 h => ?_)
          refine q_aload_n C dX6_land_40 rfl 0 rfl ?_
          refine q_get C (Cn := RX6) (T := TX6) (Nf := 60) (ci := 6) (id := 0) (k := 39) (v := .ref (ad 24)) nX6_land_X6 (by decide) (ceM_0 ad cy _ _ _) rfl (by decide) rfl hX6_land_89 dX6_land_41 ?_
          refine q_aload_n C dX6_land_44 rfl 0 rfl ?_
          refine q_get C (Cn := RX6) (T := TX6) (Nf := 60) (ci := 6) (id := 0) (k := 37) (v := .int (σ39.1 0 37)) nX6_land_X6 (by decide) (ceM_0 ad cy _ _ _) rfl (by decide) rfl hX6_land_250 dX6_land_45 ?_
          refine q_iload_n C dX6_land_48 rfl 2 rfl ?_
          refine q_iast C (id := 24) (by decide) (fun f g => ceM_24 ad cy _ f g) dX6_land_49 h (fun σ49 h => ?_)
          refine q_aload_n C dX6_land_50 rfl 0 rfl ?_
          refine q_dup C dX6_land_51 rfl ?_
          refine q_get C (Cn := RX6) (T := TX6) (Nf := 60) (ci := 6) (id := 0) (k := 37) (v := .int (σ49.1 0 37)) nX6_land_X6 (by decide) (ceM_0 ad cy _ _ _) rfl (by decide) rfl hX6_land_250 dX6_land_52 ?_
          refine q_iconst C (v := 1) dX6_land_55 (by decide) ?_
          refine q_iadd C dX6_land_56 ?_
          refine q_put C (Cn := RX6) (T := TX6) (ty0 := tyX6) (Nf := 60) (ci := 6) (id := 0) (k := 37) (y := 0) tyX6_ok nmX6 nX6_land_X6 (by decide) (ceM_0 ad cy _ _ _) (ceM_0 ad cy _ _ _) rfl (by decide) rfl (by decide +kernel) (Nat.le_of_ble_eq_true rfl) hX6_land_250 dX6_land_57 h (fun σ57 h => ?_)
          refine q_aload_n C dX6_land_60 rfl 0 rfl ?_
          refine q_iconst C (v := -1) dX6_land_61 (by decide) ?_
          refine q_put C (Cn := RX6) (T := TX6) (ty0 := tyX6) (Nf := 60) (ci := 6) (id := 0) (k := 49) (y := 0) tyX6_ok nmX6 nX6_land_X6 (by decide) (ceM_0 ad cy _ _ _) (ceM_0 ad cy _ _ _) rfl (by decide) rfl (by decide +kernel) (Nat.le_of_ble_eq_true rfl) hX6_land_113 dX6_land_62 h (fun σ62 h => ?_)
          refine q_aload_n C dX6_land_65 rfl 0 rfl ?_
          refine q_get C (Cn := RX6) (T := TX6) (Nf := 60) (ci := 6) (id := 0) (k := 37) (v := .int (σ62.1 0 37)) nX6_land_X6 (by decide) (ceM_0 ad cy _ _ _) rfl (by decide) rfl hX6_land_250 dX6_land_66 ?_
          refine q_iconst C (v := 1) dX6_land_69 (by decide) ?_
          refine q_isub C dX6_land_70 ?_
          exact q_iret C rfl dX6_land_71 h
        · exact q_sub [] rfl (hj28 σ22 h)
abbrev rmX6_table : Room := { frames := 1, cells := 0, slots := 0, locals := 21 }
theorem hyX6_table : yX6_table.cls = RX6 ∧ yX6_table.cls ≠ "java/lang/invoke/MethodHandle" ∧ yX6_table.cls ≠ "java/lang/invoke/VarHandle" ∧ (parseMethodDescriptor yX6_table.desc).map (fun d => d.parameters.length) = some 2 := by decide +kernel
theorem nX6_table_X6 : ∀ w ∈ u_ws RX6 TX6 60, w ∈ wsX6_table := by decide +kernel
theorem hX6_table_92 : Cond.fieldLink RX6 92 (TX6 40).1 (TX6 40).2.1 (TX6 40).2.2.1 ∈ wsX6_table := by decide +kernel
theorem hX6_table_95 : Cond.fieldLink RX6 95 (TX6 41).1 (TX6 41).2.1 (TX6 41).2.2.1 ∈ wsX6_table := by decide +kernel
theorem hX6_table_113 : Cond.fieldLink RX6 113 (TX6 49).1 (TX6 49).2.1 (TX6 49).2.2.1 ∈ wsX6_table := by decide +kernel
def fX6_table_L (a1 : Int32) (a2 : Int32) : Nat → Int32 → St → Option (Int32 × St)
  | 0, _, _ => none
  | n + 1, v3, σ => if (60 : Int32) ≤ v3 then (qlet (sI σ 0 49 (-1 : Int32)) (fun σ61 => qzz (1 : Int32) (some ((1 : Int32), σ61)))) else (qix (((60 : Int32) * a1) + v3) 360 (qlet (sI σ 26 (((60 : Int32) * a1) + v3).toNatClampNeg (0 : Int32)) (fun σ52 => qlet (v3 + (1 : Int32)) (fun x53 => fX6_table_L a1 a2 n x53 σ52))))
def fX6_table (σ : St) (a1 : Int32) (a2 : Int32) : Option (Int32 × St) := qcall (fX6_isLand σ a1) (fun r2 σ2 => qlet (fun (y24 : Unit) => (qzz (0 : Int32) (some ((0 : Int32), σ2)))) (fun j24 => (if r2 = (0 : Int32) then (j24 ()) else (qlet (fun (y26 : Unit) => (qix a1 6 (qlet (sI σ2 25 a1.toNatClampNeg a2) (fun σ32 => fX6_table_L a1 a2 100000 (0 : Int32) σ32)))) (fun j26 => (if a2 = (-1 : Int32) then (j26 ()) else (if a2 < (1 : Int32) then (j24 ()) else (if a2 ≤ (60 : Int32) then (j26 ()) else (j24 ())))))))))
set_option maxHeartbeats 4000000 in
set_option maxRecDepth 100000 in
theorem kX6_table_L {ad : Nat → Nat} {cy : Nat → ClassId} {X : va_W} {A : Nat → Prop} {D : va_G} {zs : Nat × Nat × Option Nat} {p : Program} {l : Launch} {e : Env} {s : State} {m : MethodId} {args : Array Value} {below : List Frame} {meth : Method} {c : Code} {a1 : Int32} {a2 : Int32} (C : qC ceM 42 ad cy X A D zs cX6_table 4 RX6 wsX6_table p s m args meth c (some .boolean)) (r0 : Int32) (σ0 : St) (n : Nat) : (∀ (v3 : Int32) (σ : St), fX6_table_L a1 a2 n v3 σ = some (r0, σ0) → qVi ceM 42 ad cy X A D p l e (headSpec wsX6_table rmX6_table).room s m args below meth c 4 r0 σ0 35 [(0, .ref (ad 0)), (1, .int a1), (3, .int v3)] [] σ) := by
  induction n with
  | zero =>
    intro v3 σ h; cases h
  | succ n ih =>
    intro v3 σ h
    rw [fX6_table_L] at h
    refine q_iload_n C dX6_table_35 rfl 2 rfl ?_
    refine q_bipush C (v := 60) dX6_table_36 (by decide) ?_
    refine q_icmp_ge C (tgt := 59) dX6_table_38 (by decide) h (fun h => ?_) (fun h => ?_)
    · refine q_aload_n C dX6_table_59 rfl 0 rfl ?_
      refine q_iconst C (v := -1) dX6_table_60 (by decide) ?_
      refine q_put C (Cn := RX6) (T := TX6) (ty0 := tyX6) (Nf := 60) (ci := 6) (id := 0) (k := 49) (y := 0) tyX6_ok nmX6 nX6_table_X6 (by decide) (ceM_0 ad cy _ _ _) (ceM_0 ad cy _ _ _) rfl (by decide) rfl (by decide +kernel) (Nat.le_of_ble_eq_true rfl) hX6_table_113 dX6_table_61 h (fun σ61 h => ?_)
      refine q_iconst C (v := 1) dX6_table_64 (by decide) ?_
      exact q_zret C rfl dX6_table_65 h
    · refine q_aload_n C dX6_table_41 rfl 0 rfl ?_
      refine q_get C (Cn := RX6) (T := TX6) (Nf := 60) (ci := 6) (id := 0) (k := 41) (v := .ref (ad 26)) nX6_table_X6 (by decide) (ceM_0 ad cy _ _ _) rfl (by decide) rfl hX6_table_95 dX6_table_42 ?_
      refine q_bipush C (v := 60) dX6_table_45 (by decide) ?_
      refine q_iload_n C dX6_table_47 rfl 1 rfl ?_
      refine q_imul C dX6_table_48 ?_
      refine q_iload_n C dX6_table_49 rfl 2 rfl ?_
      refine q_iadd C dX6_table_50 ?_
      refine q_iconst C (v := 0) dX6_table_51 (by decide) ?_
      refine q_iast C (id := 26) (by decide) (fun f g => ceM_26 ad cy _ f g) dX6_table_52 h (fun σ52 h => ?_)
      refine q_iincL C dX6_table_53 2 rfl (by decide) (nv := 1) (by decide) h (lw := fun x53 => [(0, .ref (ad 0)), (1, .int a1), (3, .int x53)]) (fun _ => rfl) (fun x53 h => ?_)
      refine q_goto C (tgt := 35) dX6_table_56 (by decide) ?_
      exact q_sub [0, 1, 2] rfl (ih x53 σ52 h)
set_option maxHeartbeats 4000000 in
set_option maxRecDepth 100000 in
theorem kX6_table (l : Launch) (D : va_G) (ad : Nat → Nat) (cy : Nat → ClassId) (X : va_W) (A : Nat → Prop) (zs : Nat × Nat × Option Nat) (σ : St) (a1 : Int32) (a2 : Int32) (r0 : Int32) (σ0 : St) (h : fX6_table σ a1 a2 = some (r0, σ0)) : Met l yX6_table wsX6_table rmX6_table (qPc ceM 42 ad cy X A D zs [.ref (ad 0), .int a1, .int a2] σ) (qQi ceM 42 ad cy X A D r0 σ0) 0 0 A := by
  refine Met.ofW (cc := cX6_table) (maxL := 4) (ret := (some .boolean)) (by decide) rfl ?_
  intro p e s m args below meth c s₁ B hml hv
  obtain ⟨ha, hP, hK, hE, hD⟩ := hv
  have C : qC ceM 42 ad cy X A D zs cX6_table 4 RX6 wsX6_table p s m args meth c (some .boolean) := ⟨B.exec, B.bytes, hml, findClass_of_methodNamed B.named, atoms_spec (ws := wsX6_table) B.pre, hK, hD, B.returns, B.notSynchronized, hE⟩
  rw [show entryFrame m args 4 = entryFrame m ([.ref (ad 0), .int a1, .int a2] : List Value).toArray 4 by rw [ha]]
  refine q_entry (A := A) (Nat.le_of_ble_eq_true rfl) hP (lv := [(0, .ref (ad 0)), (1, .int a1), (2, .int a2)]) rfl ?_
  unfold fX6_table at h
  refine q_aload_n C dX6_table_0 rfl 0 rfl ?_
  refine q_iload_n C dX6_table_1 rfl 1 rfl ?_
  refine q_callVi C (rm := rmX6_isLand) (As := [.int a1]) (rest := []) (id := 0) (ci := 6) (fun r9 σ9 h9 => kX6_isLand l D ad cy X A zs σ a1 r9 σ9 h9) gX6_table_X6_isLand rfl rfl rfl hyX6_isLand ⟨Nat.le_of_ble_eq_true rfl, Nat.le_of_ble_eq_true rfl⟩ (by decide) (ceM_0 ad cy _ _ _) rfl rfl rfl (Nat.le_of_ble_eq_true rfl) dX6_table_2 ⟨Nat.zero_le _, Nat.zero_le _⟩ h (fun r2 σ2 h => ?_)
  refine q_join (G := fun (y24 : Unit) => qVi ceM 42 ad cy X A D p l e (headSpec wsX6_table rmX6_table).room s m args below meth c 4 r0 σ0 24 [] [] σ2) h (fun y24 h => ?_) (fun j24 hj24 h => ?_)
  · refine q_iconst C (v := 0) dX6_table_24 (by decide) ?_
    exact q_zret C rfl dX6_table_25 h
  refine q_if_eq C (tgt := 24) dX6_table_5 (by decide) h (fun h => ?_) (fun h => ?_)
  · exact q_sub [] rfl (hj24 () h)
  · refine q_iload_n C dX6_table_8 rfl 2 rfl ?_
    refine q_iconst C (v := -1) dX6_table_9 (by decide) ?_
    refine q_join (G := fun (y26 : Unit) => qVi ceM 42 ad cy X A D p l e (headSpec wsX6_table rmX6_table).room s m args below meth c 4 r0 σ0 26 [(0, .ref (ad 0)), (1, .int a1), (2, .int a2)] [] σ2) h (fun y26 h => ?_) (fun j26 hj26 h => ?_)
    · refine q_aload_n C dX6_table_26 rfl 0 rfl ?_
      refine q_get C (Cn := RX6) (T := TX6) (Nf := 60) (ci := 6) (id := 0) (k := 40) (v := .ref (ad 25)) nX6_table_X6 (by decide) (ceM_0 ad cy _ _ _) rfl (by decide) rfl hX6_table_92 dX6_table_27 ?_
      refine q_iload_n C dX6_table_30 rfl 1 rfl ?_
      refine q_iload_n C dX6_table_31 rfl 2 rfl ?_
      refine q_iast C (id := 25) (by decide) (fun f g => ceM_25 ad cy _ f g) dX6_table_32 h (fun σ32 h => ?_)
      refine q_iconst C (v := 0) dX6_table_33 (by decide) ?_
      refine q_istore_n C dX6_table_34 rfl (by decide) (lv' := [(0, .ref (ad 0)), (1, .int a1), (2, .int a2), (3, .int (0 : Int32))]) rfl ?_
      exact q_sub [0, 1, 3] rfl ((kX6_table_L C r0 σ0 100000) (0 : Int32) σ32 h)
    refine q_icmp_eq C (tgt := 26) dX6_table_10 (by decide) h (fun h => ?_) (fun h => ?_)
    · exact q_sub [0, 1, 2] rfl (hj26 () h)
    · refine q_iload_n C dX6_table_13 rfl 2 rfl ?_
      refine q_iconst C (v := 1) dX6_table_14 (by decide) ?_
      refine q_icmp_lt C (tgt := 24) dX6_table_15 (by decide) h (fun h => ?_) (fun h => ?_)
      · exact q_sub [] rfl (hj24 () h)
      · refine q_iload_n C dX6_table_18 rfl 2 rfl ?_
        refine q_bipush C (v := 60) dX6_table_19 (by decide) ?_
        refine q_icmp_le C (tgt := 26) dX6_table_21 (by decide) h (fun h => ?_) (fun h => ?_)
        · exact q_sub [0, 1, 2] rfl (hj26 () h)
        · exact q_sub [] rfl (hj24 () h)
abbrev rmX6_cell : Room := { frames := 1, cells := 0, slots := 0, locals := 21 }
theorem hyX6_cell : yX6_cell.cls = RX6 ∧ yX6_cell.cls ≠ "java/lang/invoke/MethodHandle" ∧ yX6_cell.cls ≠ "java/lang/invoke/VarHandle" ∧ (parseMethodDescriptor yX6_cell.desc).map (fun d => d.parameters.length) = some 3 := by decide +kernel
theorem nX6_cell_X6 : ∀ w ∈ u_ws RX6 TX6 60, w ∈ wsX6_cell := by decide +kernel
theorem hX6_cell_92 : Cond.fieldLink RX6 92 (TX6 40).1 (TX6 40).2.1 (TX6 40).2.2.1 ∈ wsX6_cell := by decide +kernel
theorem hX6_cell_95 : Cond.fieldLink RX6 95 (TX6 41).1 (TX6 41).2.1 (TX6 41).2.2.1 ∈ wsX6_cell := by decide +kernel
theorem hX6_cell_113 : Cond.fieldLink RX6 113 (TX6 49).1 (TX6 49).2.1 (TX6 49).2.2.1 ∈ wsX6_cell := by decide +kernel
def fX6_cell (σ : St) (a1 : Int32) (a2 : Int32) (a3 : Int32) : Option (Int32 × St) := qcall (fX6_isLand σ a1) (fun r2 σ2 => qlet (fun (y31 : Unit) => (qzz (0 : Int32) (some ((0 : Int32), σ2)))) (fun j31 => (if r2 = (0 : Int32) then (j31 ()) else (if a2 < (0 : Int32) then (j31 ()) else (qix a1 6 (if (σ2.1 25 a1.toNatClampNeg) ≤ a2 then (j31 ()) else (if a3 < (0 : Int32) then (j31 ()) else (if a3 ≤ (2 : Int32) then (qix (((60 : Int32) * a1) + a2) 360 (qlet (sI σ2 26 (((60 : Int32) * a1) + a2).toNatClampNeg a3) (fun σ44 => qlet (sI σ44 0 49 (-1 : Int32)) (fun σ47 => qzz (1 : Int32) (some ((1 : Int32), σ47)))))) else (j31 ())))))))))
set_option maxHeartbeats 4000000 in
set_option maxRecDepth 100000 in
theorem kX6_cell (l : Launch) (D : va_G) (ad : Nat → Nat) (cy : Nat → ClassId) (X : va_W) (A : Nat → Prop) (zs : Nat × Nat × Option Nat) (σ : St) (a1 : Int32) (a2 : Int32) (a3 : Int32) (r0 : Int32) (σ0 : St) (h : fX6_cell σ a1 a2 a3 = some (r0, σ0)) : Met l yX6_cell wsX6_cell rmX6_cell (qPc ceM 42 ad cy X A D zs [.ref (ad 0), .int a1, .int a2, .int a3] σ) (qQi ceM 42 ad cy X A D r0 σ0) 0 0 A := by
  refine Met.ofW (cc := cX6_cell) (maxL := 4) (ret := (some .boolean)) (by decide) rfl ?_
  intro p e s m args below meth c s₁ B hml hv
  obtain ⟨ha, hP, hK, hE, hD⟩ := hv
  have C : qC ceM 42 ad cy X A D zs cX6_cell 4 RX6 wsX6_cell p s m args meth c (some .boolean) := ⟨B.exec, B.bytes, hml, findClass_of_methodNamed B.named, atoms_spec (ws := wsX6_cell) B.pre, hK, hD, B.returns, B.notSynchronized, hE⟩
  rw [show entryFrame m args 4 = entryFrame m ([.ref (ad 0), .int a1, .int a2, .int a3] : List Value).toArray 4 by rw [ha]]
  refine q_entry (A := A) (Nat.le_of_ble_eq_true rfl) hP (lv := [(0, .ref (ad 0)), (1, .int a1), (2, .int a2), (3, .int a3)]) rfl ?_
  unfold fX6_cell at h
  refine q_aload_n C dX6_cell_0 rfl 0 rfl ?_
  refine q_iload_n C dX6_cell_1 rfl 1 rfl ?_
  refine q_callVi C (rm := rmX6_isLand) (As := [.int a1]) (rest := []) (id := 0) (ci := 6) (fun r9 σ9 h9 => kX6_isLand l D ad cy X A zs σ a1 r9 σ9 h9) gX6_cell_X6_isLand rfl rfl rfl hyX6_isLand ⟨Nat.le_of_ble_eq_true rfl, Nat.le_of_ble_eq_true rfl⟩ (by decide) (ceM_0 ad cy _ _ _) rfl rfl rfl (Nat.le_of_ble_eq_true rfl) dX6_cell_2 ⟨Nat.zero_le _, Nat.zero_le _⟩ h (fun r2 σ2 h => ?_)
  refine q_join (G := fun (y31 : Unit) => qVi ceM 42 ad cy X A D p l e (headSpec wsX6_cell rmX6_cell).room s m args below meth c 4 r0 σ0 31 [] [] σ2) h (fun y31 h => ?_) (fun j31 hj31 h => ?_)
  · refine q_iconst C (v := 0) dX6_cell_31 (by decide) ?_
    exact q_zret C rfl dX6_cell_32 h
  refine q_if_eq C (tgt := 31) dX6_cell_5 (by decide) h (fun h => ?_) (fun h => ?_)
  · exact q_sub [] rfl (hj31 () h)
  · refine q_iload_n C dX6_cell_8 rfl 2 rfl ?_
    refine q_if_lt C (tgt := 31) dX6_cell_9 (by decide) h (fun h => ?_) (fun h => ?_)
    · exact q_sub [] rfl (hj31 () h)
    · refine q_iload_n C dX6_cell_12 rfl 2 rfl ?_
      refine q_aload_n C dX6_cell_13 rfl 0 rfl ?_
      refine q_get C (Cn := RX6) (T := TX6) (Nf := 60) (ci := 6) (id := 0) (k := 40) (v := .ref (ad 25)) nX6_cell_X6 (by decide) (ceM_0 ad cy _ _ _) rfl (by decide) rfl hX6_cell_92 dX6_cell_14 ?_
      refine q_iload_n C dX6_cell_17 rfl 1 rfl ?_
      refine q_iald C (id := 25) (by decide) (ceM_25 ad cy _ _ _) dX6_cell_18 h (fun h => ?_)
      refine q_icmp_ge C (tgt := 31) dX6_cell_19 (by decide) h (fun h => ?_) (fun h => ?_)
      · exact q_sub [] rfl (hj31 () h)
      · refine q_iload_n C dX6_cell_22 rfl 3 rfl ?_
        refine q_if_lt C (tgt := 31) dX6_cell_23 (by decide) h (fun h => ?_) (fun h => ?_)
        · exact q_sub [] rfl (hj31 () h)
        · refine q_iload_n C dX6_cell_26 rfl 3 rfl ?_
          refine q_iconst C (v := 2) dX6_cell_27 (by decide) ?_
          refine q_icmp_le C (tgt := 33) dX6_cell_28 (by decide) h (fun h => ?_) (fun h => ?_)
          · refine q_aload_n C dX6_cell_33 rfl 0 rfl ?_
            refine q_get C (Cn := RX6) (T := TX6) (Nf := 60) (ci := 6) (id := 0) (k := 41) (v := .ref (ad 26)) nX6_cell_X6 (by decide) (ceM_0 ad cy _ _ _) rfl (by decide) rfl hX6_cell_95 dX6_cell_34 ?_
            refine q_bipush C (v := 60) dX6_cell_37 (by decide) ?_
            refine q_iload_n C dX6_cell_39 rfl 1 rfl ?_
            refine q_imul C dX6_cell_40 ?_
            refine q_iload_n C dX6_cell_41 rfl 2 rfl ?_
            refine q_iadd C dX6_cell_42 ?_
            refine q_iload_n C dX6_cell_43 rfl 3 rfl ?_
            refine q_iast C (id := 26) (by decide) (fun f g => ceM_26 ad cy _ f g) dX6_cell_44 h (fun σ44 h => ?_)
            refine q_aload_n C dX6_cell_45 rfl 0 rfl ?_
            refine q_iconst C (v := -1) dX6_cell_46 (by decide) ?_
            refine q_put C (Cn := RX6) (T := TX6) (ty0 := tyX6) (Nf := 60) (ci := 6) (id := 0) (k := 49) (y := 0) tyX6_ok nmX6 nX6_cell_X6 (by decide) (ceM_0 ad cy _ _ _) (ceM_0 ad cy _ _ _) rfl (by decide) rfl (by decide +kernel) (Nat.le_of_ble_eq_true rfl) hX6_cell_113 dX6_cell_47 h (fun σ47 h => ?_)
            refine q_iconst C (v := 1) dX6_cell_50 (by decide) ?_
            exact q_zret C rfl dX6_cell_51 h
          · exact q_sub [] rfl (hj31 () h)
abbrev rmX6_travel : Room := { frames := 1, cells := 0, slots := 0, locals := 21 }
theorem hyX6_travel : yX6_travel.cls = RX6 ∧ yX6_travel.cls ≠ "java/lang/invoke/MethodHandle" ∧ yX6_travel.cls ≠ "java/lang/invoke/VarHandle" ∧ (parseMethodDescriptor yX6_travel.desc).map (fun d => d.parameters.length) = some 3 := by decide +kernel
theorem nX6_travel_X6 : ∀ w ∈ u_ws RX6 TX6 60, w ∈ wsX6_travel := by decide +kernel
theorem hX6_travel_98 : Cond.fieldLink RX6 98 (TX6 42).1 (TX6 42).2.1 (TX6 42).2.2.1 ∈ wsX6_travel := by decide +kernel
theorem hX6_travel_113 : Cond.fieldLink RX6 113 (TX6 49).1 (TX6 49).2.1 (TX6 49).2.2.1 ∈ wsX6_travel := by decide +kernel
def fX6_travel (σ : St) (a1 : Int32) (a2 : Int32) (a3 : Int32) : Option (Int32 × St) := qcall (fX6_isLand σ a1) (fun r2 σ2 => qlet (fun (y32 : St) => (qzz (0 : Int32) (some ((0 : Int32), y32)))) (fun j32 => (if r2 = (0 : Int32) then (j32 σ2) else (qcall (fX6_isLand σ2 a2) (fun r10 σ10 => if r10 = (0 : Int32) then (j32 σ10) else (if a1 = a2 then (j32 σ10) else (if a3 < (-1 : Int32) then (j32 σ10) else (if a3 ≤ (60 : Int32) then (qix (((6 : Int32) * a1) + a2) 36 (qlet (sI σ10 27 (((6 : Int32) * a1) + a2).toNatClampNeg a3) (fun σ45 => qlet (sI σ45 0 49 (-1 : Int32)) (fun σ48 => qzz (1 : Int32) (some ((1 : Int32), σ48)))))) else (j32 σ10)))))))))
set_option maxHeartbeats 4000000 in
set_option maxRecDepth 100000 in
theorem kX6_travel (l : Launch) (D : va_G) (ad : Nat → Nat) (cy : Nat → ClassId) (X : va_W) (A : Nat → Prop) (zs : Nat × Nat × Option Nat) (σ : St) (a1 : Int32) (a2 : Int32) (a3 : Int32) (r0 : Int32) (σ0 : St) (h : fX6_travel σ a1 a2 a3 = some (r0, σ0)) : Met l yX6_travel wsX6_travel rmX6_travel (qPc ceM 42 ad cy X A D zs [.ref (ad 0), .int a1, .int a2, .int a3] σ) (qQi ceM 42 ad cy X A D r0 σ0) 0 0 A := by
  refine Met.ofW (cc := cX6_travel) (maxL := 4) (ret := (some .boolean)) (by decide) rfl ?_
  intro p e s m args below meth c s₁ B hml hv
  obtain ⟨ha, hP, hK, hE, hD⟩ := hv
  have C : qC ceM 42 ad cy X A D zs cX6_travel 4 RX6 wsX6_travel p s m args meth c (some .boolean) := ⟨B.exec, B.bytes, hml, findClass_of_methodNamed B.named, atoms_spec (ws := wsX6_travel) B.pre, hK, hD, B.returns, B.notSynchronized, hE⟩
  rw [show entryFrame m args 4 = entryFrame m ([.ref (ad 0), .int a1, .int a2, .int a3] : List Value).toArray 4 by rw [ha]]
  refine q_entry (A := A) (Nat.le_of_ble_eq_true rfl) hP (lv := [(0, .ref (ad 0)), (1, .int a1), (2, .int a2), (3, .int a3)]) rfl ?_
  unfold fX6_travel at h
  refine q_aload_n C dX6_travel_0 rfl 0 rfl ?_
  refine q_iload_n C dX6_travel_1 rfl 1 rfl ?_
  refine q_callVi C (rm := rmX6_isLand) (As := [.int a1]) (rest := []) (id := 0) (ci := 6) (fun r9 σ9 h9 => kX6_isLand l D ad cy X A zs σ a1 r9 σ9 h9) gX6_travel_X6_isLand rfl rfl rfl hyX6_isLand ⟨Nat.le_of_ble_eq_true rfl, Nat.le_of_ble_eq_true rfl⟩ (by decide) (ceM_0 ad cy _ _ _) rfl rfl rfl (Nat.le_of_ble_eq_true rfl) dX6_travel_2 ⟨Nat.zero_le _, Nat.zero_le _⟩ h (fun r2 σ2 h => ?_)
  refine q_join (G := fun (y32 : St) => qVi ceM 42 ad cy X A D p l e (headSpec wsX6_travel rmX6_travel).room s m args below meth c 4 r0 σ0 32 [] [] y32) h (fun y32 h => ?_) (fun j32 hj32 h => ?_)
  · refine q_iconst C (v := 0) dX6_travel_32 (by decide) ?_
    exact q_zret C rfl dX6_travel_33 h
  refine q_if_eq C (tgt := 32) dX6_travel_5 (by decide) h (fun h => ?_) (fun h => ?_)
  · exact q_sub [] rfl (hj32 σ2 h)
  · refine q_aload_n C dX6_travel_8 rfl 0 rfl ?_
    refine q_iload_n C dX6_travel_9 rfl 2 rfl ?_
    refine q_callVi C (rm := rmX6_isLand) (As := [.int a2]) (rest := []) (id := 0) (ci := 6) (fun r9 σ9 h9 => kX6_isLand l D ad cy X A zs σ2 a2 r9 σ9 h9) gX6_travel_X6_isLand rfl rfl rfl hyX6_isLand ⟨Nat.le_of_ble_eq_true rfl, Nat.le_of_ble_eq_true rfl⟩ (by decide) (ceM_0 ad cy _ _ _) rfl rfl rfl (Nat.le_of_ble_eq_true rfl) dX6_travel_10 ⟨Nat.zero_le _, Nat.zero_le _⟩ h (fun r10 σ10 h => ?_)
    refine q_if_eq C (tgt := 32) dX6_travel_13 (by decide) h (fun h => ?_) (fun h => ?_)
    · exact q_sub [] rfl (hj32 σ10 h)
    · refine q_iload_n C dX6_travel_16 rfl 1 rfl ?_
      refine q_iload_n C dX6_travel_17 rfl 2 rfl ?_
      refine q_icmp_eq C (tgt := 32) dX6_travel_18 (by decide) h (fun h => ?_) (fun h => ?_)
      · exact q_sub [] rfl (hj32 σ10 h)
      · refine q_iload_n C dX6_travel_21 rfl 3 rfl ?_
        refine q_iconst C (v := -1) dX6_travel_22 (by decide) ?_
        refine q_icmp_lt C (tgt := 32) dX6_travel_23 (by decide) h (fun h => ?_) (fun h => ?_)
        · exact q_sub [] rfl (hj32 σ10 h)
        · refine q_iload_n C dX6_travel_26 rfl 3 rfl ?_
          refine q_bipush C (v := 60) dX6_travel_27 (by decide) ?_
          refine q_icmp_le C (tgt := 34) dX6_travel_29 (by decide) h (fun h => ?_) (fun h => ?_)
          · refine q_aload_n C dX6_travel_34 rfl 0 rfl ?_
            refine q_get C (Cn := RX6) (T := TX6) (Nf := 60) (ci := 6) (id := 0) (k := 42) (v := .ref (ad 27)) nX6_travel_X6 (by decide) (ceM_0 ad cy _ _ _) rfl (by decide) rfl hX6_travel_98 dX6_travel_35 ?_
            refine q_bipush C (v := 6) dX6_travel_38 (by decide) ?_
            refine q_iload_n C dX6_travel_40 rfl 1 rfl ?_
            refine q_imul C dX6_travel_41 ?_
            refine q_iload_n C dX6_travel_42 rfl 2 rfl ?_
            refine q_iadd C dX6_travel_43 ?_
            refine q_iload_n C dX6_travel_44 rfl 3 rfl ?_
            refine q_iast C (id := 27) (by decide) (fun f g => ceM_27 ad cy _ f g) dX6_travel_45 h (fun σ45 h => ?_)
            refine q_aload_n C dX6_travel_46 rfl 0 rfl ?_
            refine q_iconst C (v := -1) dX6_travel_47 (by decide) ?_
            refine q_put C (Cn := RX6) (T := TX6) (ty0 := tyX6) (Nf := 60) (ci := 6) (id := 0) (k := 49) (y := 0) tyX6_ok nmX6 nX6_travel_X6 (by decide) (ceM_0 ad cy _ _ _) (ceM_0 ad cy _ _ _) rfl (by decide) rfl (by decide +kernel) (Nat.le_of_ble_eq_true rfl) hX6_travel_113 dX6_travel_48 h (fun σ48 h => ?_)
            refine q_iconst C (v := 1) dX6_travel_51 (by decide) ?_
            exact q_zret C rfl dX6_travel_52 h
          · exact q_sub [] rfl (hj32 σ10 h)
abbrev rmX6_witness : Room := { frames := 1, cells := 0, slots := 0, locals := 21 }
theorem hyX6_witness : yX6_witness.cls = RX6 ∧ yX6_witness.cls ≠ "java/lang/invoke/MethodHandle" ∧ yX6_witness.cls ≠ "java/lang/invoke/VarHandle" ∧ (parseMethodDescriptor yX6_witness.desc).map (fun d => d.parameters.length) = some 1 := by decide +kernel
theorem nX6_witness_X6 : ∀ w ∈ u_ws RX6 TX6 60, w ∈ wsX6_witness := by decide +kernel
theorem hX6_witness_253 : Cond.fieldLink RX6 253 (TX6 43).1 (TX6 43).2.1 (TX6 43).2.2.1 ∈ wsX6_witness := by decide +kernel
theorem hX6_witness_101 : Cond.fieldLink RX6 101 (TX6 44).1 (TX6 44).2.1 (TX6 44).2.2.1 ∈ wsX6_witness := by decide +kernel
def fX6_witness (σ : St) (a1 : Int32) : Option (Int32 × St) := qlet (fun (y17 : St) => (some ((-1 : Int32), y17))) (fun j17 => (if (σ.1 0 43) = (12 : Int32) then (j17 σ) else (qcall (fX6_isLand σ a1) (fun r11 σ11 => if r11 = (0 : Int32) then (j17 σ11) else (qix (σ11.1 0 43) 12 (qlet (sI σ11 28 (σ11.1 0 43).toNatClampNeg a1) (fun σ28 => qlet (sI σ28 0 43 ((σ28.1 0 43) + (1 : Int32))) (fun σ36 => some (((σ36.1 0 43) - (1 : Int32)), σ36)))))))))
set_option maxHeartbeats 4000000 in
set_option maxRecDepth 100000 in
theorem kX6_witness (l : Launch) (D : va_G) (ad : Nat → Nat) (cy : Nat → ClassId) (X : va_W) (A : Nat → Prop) (zs : Nat × Nat × Option Nat) (σ : St) (a1 : Int32) (r0 : Int32) (σ0 : St) (h : fX6_witness σ a1 = some (r0, σ0)) : Met l yX6_witness wsX6_witness rmX6_witness (qPc ceM 42 ad cy X A D zs [.ref (ad 0), .int a1] σ) (qQi ceM 42 ad cy X A D r0 σ0) 0 0 A := by
  refine Met.ofW (cc := cX6_witness) (maxL := 2) (ret := (some .int)) (by decide) rfl ?_
  intro p e s m args below meth c s₁ B hml hv
  obtain ⟨ha, hP, hK, hE, hD⟩ := hv
  have C : qC ceM 42 ad cy X A D zs cX6_witness 2 RX6 wsX6_witness p s m args meth c (some .int) := ⟨B.exec, B.bytes, hml, findClass_of_methodNamed B.named, atoms_spec (ws := wsX6_witness) B.pre, hK, hD, B.returns, B.notSynchronized, hE⟩
  rw [show entryFrame m args 2 = entryFrame m ([.ref (ad 0), .int a1] : List Value).toArray 2 by rw [ha]]
  refine q_entry (A := A) (Nat.le_of_ble_eq_true rfl) hP (lv := [(0, .ref (ad 0)), (1, .int a1)]) rfl ?_
  unfold fX6_witness at h
  refine q_aload_n C dX6_witness_0 rfl 0 rfl ?_
  refine q_get C (Cn := RX6) (T := TX6) (Nf := 60) (ci := 6) (id := 0) (k := 43) (v := .int (σ.1 0 43)) nX6_witness_X6 (by decide) (ceM_0 ad cy _ _ _) rfl (by decide) rfl hX6_witness_253 dX6_witness_1 ?_
  refine q_bipush C (v := 12) dX6_witness_4 (by decide) ?_
  refine q_join (G := fun (y17 : St) => qVi ceM 42 ad cy X A D p l e (headSpec wsX6_witness rmX6_witness).room s m args below meth c 2 r0 σ0 17 [] [] y17) h (fun y17 h => ?_) (fun j17 hj17 h => ?_)
  · refine q_iconst C (v := -1) dX6_witness_17 (by decide) ?_
    exact q_iret C rfl dX6_witness_18 h
  refine q_icmp_eq C (tgt := 17) dX6_witness_6 (by decide) h (fun h => ?_) (fun h => ?_)
  · exact q_sub [] rfl (hj17 σ h)
  · refine q_aload_n C dX6_witness_9 rfl 0 rfl ?_
    refine q_iload_n C dX6_witness_10 rfl 1 rfl ?_
    refine q_callVi C (rm := rmX6_isLand) (As := [.int a1]) (rest := []) (id := 0) (ci := 6) (fun r9 σ9 h9 => kX6_isLand l D ad cy X A zs σ a1 r9 σ9 h9) gX6_witness_X6_isLand rfl rfl rfl hyX6_isLand ⟨Nat.le_of_ble_eq_true rfl, Nat.le_of_ble_eq_true rfl⟩ (by decide) (ceM_0 ad cy _ _ _) rfl rfl rfl (Nat.le_of_ble_eq_true rfl) dX6_witness_11 ⟨Nat.zero_le _, Nat.zero_le _⟩ h (fun r11 σ11 h => ?_)
    refine q_if_ne C (tgt := 19) dX6_witness_14 (by decide) h (fun h => ?_) (fun h => ?_)
    · refine q_aload_n C dX6_witness_19 rfl 0 rfl ?_
      refine q_get C (Cn := RX6) (T := TX6) (Nf := 60) (ci := 6) (id := 0) (k := 44) (v := .ref (ad 28)) nX6_witness_X6 (by decide) (ceM_0 ad cy _ _ _) rfl (by decide) rfl hX6_witness_101 dX6_witness_20 ?_
      refine q_aload_n C dX6_witness_23 rfl 0 rfl ?_
      refine q_get C (Cn := RX6) (T := TX6) (Nf := 60) (ci := 6) (id := 0) (k := 43) (v := .int (σ11.1 0 43)) nX6_witness_X6 (by decide) (ceM_0 ad cy _ _ _) rfl (by decide) rfl hX6_witness_253 dX6_witness_24 ?_
      refine q_iload_n C dX6_witness_27 rfl 1 rfl ?_
      refine q_iast C (id := 28) (by decide) (fun f g => ceM_28 ad cy _ f g) dX6_witness_28 h (fun σ28 h => ?_)
      refine q_aload_n C dX6_witness_29 rfl 0 rfl ?_
      refine q_dup C dX6_witness_30 rfl ?_
      refine q_get C (Cn := RX6) (T := TX6) (Nf := 60) (ci := 6) (id := 0) (k := 43) (v := .int (σ28.1 0 43)) nX6_witness_X6 (by decide) (ceM_0 ad cy _ _ _) rfl (by decide) rfl hX6_witness_253 dX6_witness_31 ?_
      refine q_iconst C (v := 1) dX6_witness_34 (by decide) ?_
      refine q_iadd C dX6_witness_35 ?_
      refine q_put C (Cn := RX6) (T := TX6) (ty0 := tyX6) (Nf := 60) (ci := 6) (id := 0) (k := 43) (y := 0) tyX6_ok nmX6 nX6_witness_X6 (by decide) (ceM_0 ad cy _ _ _) (ceM_0 ad cy _ _ _) rfl (by decide) rfl (by decide +kernel) (Nat.le_of_ble_eq_true rfl) hX6_witness_253 dX6_witness_36 h (fun σ36 h => ?_)
      refine q_aload_n C dX6_witness_39 rfl 0 rfl ?_
      refine q_get C (Cn := RX6) (T := TX6) (Nf := 60) (ci := 6) (id := 0) (k := 43) (v := .int (σ36.1 0 43)) nX6_witness_X6 (by decide) (ceM_0 ad cy _ _ _) rfl (by decide) rfl hX6_witness_253 dX6_witness_40 ?_
      refine q_iconst C (v := 1) dX6_witness_43 (by decide) ?_
      refine q_isub C dX6_witness_44 ?_
      exact q_iret C rfl dX6_witness_45 h
    · exact q_sub [] rfl (hj17 σ11 h)
abbrev rmX6_fact : Room := { frames := 0, cells := 0, slots := 0, locals := 0 }
theorem hyX6_fact : yX6_fact.cls = RX6 ∧ yX6_fact.cls ≠ "java/lang/invoke/MethodHandle" ∧ yX6_fact.cls ≠ "java/lang/invoke/VarHandle" ∧ (parseMethodDescriptor yX6_fact.desc).map (fun d => d.parameters.length) = some 3 := by decide +kernel
theorem nX6_fact_X6 : ∀ w ∈ u_ws RX6 TX6 60, w ∈ wsX6_fact := by decide +kernel
theorem hX6_fact_104 : Cond.fieldLink RX6 104 (TX6 46).1 (TX6 46).2.1 (TX6 46).2.2.1 ∈ wsX6_fact := by decide +kernel
theorem hX6_fact_256 : Cond.fieldLink RX6 256 (TX6 45).1 (TX6 45).2.1 (TX6 45).2.2.1 ∈ wsX6_fact := by decide +kernel
theorem hX6_fact_107 : Cond.fieldLink RX6 107 (TX6 47).1 (TX6 47).2.1 (TX6 47).2.2.1 ∈ wsX6_fact := by decide +kernel
theorem hX6_fact_110 : Cond.fieldLink RX6 110 (TX6 48).1 (TX6 48).2.1 (TX6 48).2.2.1 ∈ wsX6_fact := by decide +kernel
def fX6_fact (σ : St) (a1 : Int32) (a2 : Int32) (a3 : Int32) : Option (Int32 × St) := qix (σ.1 0 45) 300 (qlet (sI σ 29 (σ.1 0 45).toNatClampNeg (vp_nar .boolean a1)) (fun σ9 => qix (σ9.1 0 45) 300 (qlet (sI σ9 30 (σ9.1 0 45).toNatClampNeg a2) (fun σ19 => qix (σ19.1 0 45) 300 (qlet (sI σ19 31 (σ19.1 0 45).toNatClampNeg a3) (fun σ29 => qlet (sI σ29 0 45 ((σ29.1 0 45) + (1 : Int32))) (fun σ37 => some (((σ37.1 0 45) - (1 : Int32)), σ37))))))))
set_option maxHeartbeats 4000000 in
set_option maxRecDepth 100000 in
theorem kX6_fact (l : Launch) (D : va_G) (ad : Nat → Nat) (cy : Nat → ClassId) (X : va_W) (A : Nat → Prop) (zs : Nat × Nat × Option Nat) (σ : St) (a1 : Int32) (a2 : Int32) (a3 : Int32) (r0 : Int32) (σ0 : St) (h : fX6_fact σ a1 a2 a3 = some (r0, σ0)) : Met l yX6_fact wsX6_fact rmX6_fact (qPc ceM 42 ad cy X A D zs [.ref (ad 0), .int a1, .int a2, .int a3] σ) (qQi ceM 42 ad cy X A D r0 σ0) 0 0 A := by
  refine Met.ofW (cc := cX6_fact) (maxL := 4) (ret := (some .int)) (by decide) rfl ?_
  intro p e s m args below meth c s₁ B hml hv
  obtain ⟨ha, hP, hK, hE, hD⟩ := hv
  have C : qC ceM 42 ad cy X A D zs cX6_fact 4 RX6 wsX6_fact p s m args meth c (some .int) := ⟨B.exec, B.bytes, hml, findClass_of_methodNamed B.named, atoms_spec (ws := wsX6_fact) B.pre, hK, hD, B.returns, B.notSynchronized, hE⟩
  rw [show entryFrame m args 4 = entryFrame m ([.ref (ad 0), .int a1, .int a2, .int a3] : List Value).toArray 4 by rw [ha]]
  refine q_entry (A := A) (Nat.le_of_ble_eq_true rfl) hP (lv := [(0, .ref (ad 0)), (1, .int a1), (2, .int a2), (3, .int a3)]) rfl ?_
  unfold fX6_fact at h
  refine q_aload_n C dX6_fact_0 rfl 0 rfl ?_
  refine q_get C (Cn := RX6) (T := TX6) (Nf := 60) (ci := 6) (id := 0) (k := 46) (v := .ref (ad 29)) nX6_fact_X6 (by decide) (ceM_0 ad cy _ _ _) rfl (by decide) rfl hX6_fact_104 dX6_fact_1 ?_
  refine q_aload_n C dX6_fact_4 rfl 0 rfl ?_
  refine q_get C (Cn := RX6) (T := TX6) (Nf := 60) (ci := 6) (id := 0) (k := 45) (v := .int (σ.1 0 45)) nX6_fact_X6 (by decide) (ceM_0 ad cy _ _ _) rfl (by decide) rfl hX6_fact_256 dX6_fact_5 ?_
  refine q_iload_n C dX6_fact_8 rfl 1 rfl ?_
  refine q_zast C (id := 29) (by decide) (fun f g => ceM_29 ad cy _ f g) dX6_fact_9 h (fun σ9 h => ?_)
  refine q_aload_n C dX6_fact_10 rfl 0 rfl ?_
  refine q_get C (Cn := RX6) (T := TX6) (Nf := 60) (ci := 6) (id := 0) (k := 47) (v := .ref (ad 30)) nX6_fact_X6 (by decide) (ceM_0 ad cy _ _ _) rfl (by decide) rfl hX6_fact_107 dX6_fact_11 ?_
  refine q_aload_n C dX6_fact_14 rfl 0 rfl ?_
  refine q_get C (Cn := RX6) (T := TX6) (Nf := 60) (ci := 6) (id := 0) (k := 45) (v := .int (σ9.1 0 45)) nX6_fact_X6 (by decide) (ceM_0 ad cy _ _ _) rfl (by decide) rfl hX6_fact_256 dX6_fact_15 ?_
  refine q_iload_n C dX6_fact_18 rfl 2 rfl ?_
  refine q_iast C (id := 30) (by decide) (fun f g => ceM_30 ad cy _ f g) dX6_fact_19 h (fun σ19 h => ?_)
  refine q_aload_n C dX6_fact_20 rfl 0 rfl ?_
  refine q_get C (Cn := RX6) (T := TX6) (Nf := 60) (ci := 6) (id := 0) (k := 48) (v := .ref (ad 31)) nX6_fact_X6 (by decide) (ceM_0 ad cy _ _ _) rfl (by decide) rfl hX6_fact_110 dX6_fact_21 ?_
  refine q_aload_n C dX6_fact_24 rfl 0 rfl ?_
  refine q_get C (Cn := RX6) (T := TX6) (Nf := 60) (ci := 6) (id := 0) (k := 45) (v := .int (σ19.1 0 45)) nX6_fact_X6 (by decide) (ceM_0 ad cy _ _ _) rfl (by decide) rfl hX6_fact_256 dX6_fact_25 ?_
  refine q_iload_n C dX6_fact_28 rfl 3 rfl ?_
  refine q_iast C (id := 31) (by decide) (fun f g => ceM_31 ad cy _ f g) dX6_fact_29 h (fun σ29 h => ?_)
  refine q_aload_n C dX6_fact_30 rfl 0 rfl ?_
  refine q_dup C dX6_fact_31 rfl ?_
  refine q_get C (Cn := RX6) (T := TX6) (Nf := 60) (ci := 6) (id := 0) (k := 45) (v := .int (σ29.1 0 45)) nX6_fact_X6 (by decide) (ceM_0 ad cy _ _ _) rfl (by decide) rfl hX6_fact_256 dX6_fact_32 ?_
  refine q_iconst C (v := 1) dX6_fact_35 (by decide) ?_
  refine q_iadd C dX6_fact_36 ?_
  refine q_put C (Cn := RX6) (T := TX6) (ty0 := tyX6) (Nf := 60) (ci := 6) (id := 0) (k := 45) (y := 0) tyX6_ok nmX6 nX6_fact_X6 (by decide) (ceM_0 ad cy _ _ _) (ceM_0 ad cy _ _ _) rfl (by decide) rfl (by decide +kernel) (Nat.le_of_ble_eq_true rfl) hX6_fact_256 dX6_fact_37 h (fun σ37 h => ?_)
  refine q_aload_n C dX6_fact_40 rfl 0 rfl ?_
  refine q_get C (Cn := RX6) (T := TX6) (Nf := 60) (ci := 6) (id := 0) (k := 45) (v := .int (σ37.1 0 45)) nX6_fact_X6 (by decide) (ceM_0 ad cy _ _ _) rfl (by decide) rfl hX6_fact_256 dX6_fact_41 ?_
  refine q_iconst C (v := 1) dX6_fact_44 (by decide) ?_
  refine q_isub C dX6_fact_45 ?_
  exact q_iret C rfl dX6_fact_46 h
abbrev rmX6_report : Room := { frames := 1, cells := 0, slots := 0, locals := 23 }
theorem hyX6_report : yX6_report.cls = RX6 ∧ yX6_report.cls ≠ "java/lang/invoke/MethodHandle" ∧ yX6_report.cls ≠ "java/lang/invoke/VarHandle" ∧ (parseMethodDescriptor yX6_report.desc).map (fun d => d.parameters.length) = some 2 := by decide +kernel
theorem nX6_report_X6 : ∀ w ∈ u_ws RX6 TX6 60, w ∈ wsX6_report := by decide +kernel
theorem hX6_report_256 : Cond.fieldLink RX6 256 (TX6 45).1 (TX6 45).2.1 (TX6 45).2.2.1 ∈ wsX6_report := by decide +kernel
def fX6_report (σ : St) (a1 : Int32) (a2 : Int32) : Option (Int32 × St) := qlet (fun (y36 : Int32 × St) => (some (y36.1, y36.2))) (fun j36 => (qlet (fun (y25 : St) => (j36 ((-1 : Int32), y25))) (fun j25 => (if (σ.1 0 45) = (300 : Int32) then (j25 σ) else (qcall (fX6_isWitness σ a1) (fun r12 σ12 => if r12 = (0 : Int32) then (j25 σ12) else (qcall (fX6_isEvening σ12 a2) (fun r19 σ19 => if r19 = (0 : Int32) then (j25 σ19) else (qcall (fX6_fact σ19 (0 : Int32) a1 a2) (fun r33 σ33 => j36 (r33, σ33)))))))))))
set_option maxHeartbeats 4000000 in
set_option maxRecDepth 100000 in
theorem kX6_report (l : Launch) (D : va_G) (ad : Nat → Nat) (cy : Nat → ClassId) (X : va_W) (A : Nat → Prop) (zs : Nat × Nat × Option Nat) (σ : St) (a1 : Int32) (a2 : Int32) (r0 : Int32) (σ0 : St) (h : fX6_report σ a1 a2 = some (r0, σ0)) : Met l yX6_report wsX6_report rmX6_report (qPc ceM 42 ad cy X A D zs [.ref (ad 0), .int a1, .int a2] σ) (qQi ceM 42 ad cy X A D r0 σ0) 0 0 A := by
  refine Met.ofW (cc := cX6_report) (maxL := 3) (ret := (some .int)) (by decide) rfl ?_
  intro p e s m args below meth c s₁ B hml hv
  obtain ⟨ha, hP, hK, hE, hD⟩ := hv
  have C : qC ceM 42 ad cy X A D zs cX6_report 3 RX6 wsX6_report p s m args meth c (some .int) := ⟨B.exec, B.bytes, hml, findClass_of_methodNamed B.named, atoms_spec (ws := wsX6_report) B.pre, hK, hD, B.returns, B.notSynchronized, hE⟩
  rw [show entryFrame m args 3 = entryFrame m ([.ref (ad 0), .int a1, .int a2] : List Value).toArray 3 by rw [ha]]
  refine q_entry (A := A) (Nat.le_of_ble_eq_true rfl) hP (lv := [(0, .ref (ad 0)), (1, .int a1), (2, .int a2)]) rfl ?_
  unfold fX6_report at h
  refine q_aload_n C dX6_report_0 rfl 0 rfl ?_
  refine q_get C (Cn := RX6) (T := TX6) (Nf := 60) (ci := 6) (id := 0) (k := 45) (v := .int (σ.1 0 45)) nX6_report_X6 (by decide) (ceM_0 ad cy _ _ _) rfl (by decide) rfl hX6_report_256 dX6_report_1 ?_
  refine q_sipush C (v := 300) dX6_report_4 (by decide) ?_
  refine q_join (G := fun (y36 : Int32 × St) => qVi ceM 42 ad cy X A D p l e (headSpec wsX6_report rmX6_report).room s m args below meth c 3 r0 σ0 36 [] [.int y36.1] y36.2) h (fun y36 h => ?_) (fun j36 hj36 h => ?_)
  · exact q_iret C rfl dX6_report_36 h
  refine q_join (G := fun (y25 : St) => qVi ceM 42 ad cy X A D p l e (headSpec wsX6_report rmX6_report).room s m args below meth c 3 r0 σ0 25 [] [] y25) h (fun y25 h => ?_) (fun j25 hj25 h => ?_)
  · refine q_iconst C (v := -1) dX6_report_25 (by decide) ?_
    refine q_goto C (tgt := 36) dX6_report_26 (by decide) ?_
    exact q_sub [] rfl (hj36 ((-1 : Int32), y25) h)
  refine q_icmp_eq C (tgt := 25) dX6_report_7 (by decide) h (fun h => ?_) (fun h => ?_)
  · exact q_sub [] rfl (hj25 σ h)
  · refine q_aload_n C dX6_report_10 rfl 0 rfl ?_
    refine q_iload_n C dX6_report_11 rfl 1 rfl ?_
    refine q_callVi C (rm := rmX6_isWitness) (As := [.int a1]) (rest := []) (id := 0) (ci := 6) (fun r9 σ9 h9 => kX6_isWitness l D ad cy X A zs σ a1 r9 σ9 h9) gX6_report_X6_isWitness rfl rfl rfl hyX6_isWitness ⟨Nat.le_of_ble_eq_true rfl, Nat.le_of_ble_eq_true rfl⟩ (by decide) (ceM_0 ad cy _ _ _) rfl rfl rfl (Nat.le_of_ble_eq_true rfl) dX6_report_12 ⟨Nat.zero_le _, Nat.zero_le _⟩ h (fun r12 σ12 h => ?_)
    refine q_if_eq C (tgt := 25) dX6_report_15 (by decide) h (fun h => ?_) (fun h => ?_)
    · exact q_sub [] rfl (hj25 σ12 h)
    · refine q_iload_n C dX6_report_18 rfl 2 rfl ?_
      refine q_callSi C (rm := rmX6_isEvening) (As := [.int a2]) (rest := []) (fun r9 σ9 h9 => kX6_isEvening l D ad cy X A zs σ12 a2 r9 σ9 h9) gX6_report_X6_isEvening rfl rfl rfl hyX6_isEvening ⟨Nat.le_of_ble_eq_true rfl, Nat.le_of_ble_eq_true rfl⟩ rfl rfl (Nat.le_of_ble_eq_true rfl) dX6_report_19 ⟨Nat.zero_le _, Nat.zero_le _⟩ h (fun r19 σ19 h => ?_)
      refine q_if_ne C (tgt := 29) dX6_report_22 (by decide) h (fun h => ?_) (fun h => ?_)
      · refine q_aload_n C dX6_report_29 rfl 0 rfl ?_
        refine q_iconst C (v := 0) dX6_report_30 (by decide) ?_
        refine q_iload_n C dX6_report_31 rfl 1 rfl ?_
        refine q_iload_n C dX6_report_32 rfl 2 rfl ?_
        refine q_callVi C (rm := rmX6_fact) (As := [.int (0 : Int32), .int a1, .int a2]) (rest := []) (id := 0) (ci := 6) (fun r9 σ9 h9 => kX6_fact l D ad cy X A zs σ19 (0 : Int32) a1 a2 r9 σ9 h9) gX6_report_X6_fact rfl rfl rfl hyX6_fact ⟨Nat.le_of_ble_eq_true rfl, Nat.le_of_ble_eq_true rfl⟩ (by decide) (ceM_0 ad cy _ _ _) rfl rfl rfl (Nat.le_of_ble_eq_true rfl) dX6_report_33 ⟨Nat.zero_le _, Nat.zero_le _⟩ h (fun r33 σ33 h => ?_)
        exact q_sub [] rfl (hj36 (r33, σ33) h)
      · exact q_sub [] rfl (hj25 σ19 h)
abbrev rmX6_cloud : Room := { frames := 1, cells := 0, slots := 0, locals := 23 }
theorem hyX6_cloud : yX6_cloud.cls = RX6 ∧ yX6_cloud.cls ≠ "java/lang/invoke/MethodHandle" ∧ yX6_cloud.cls ≠ "java/lang/invoke/VarHandle" ∧ (parseMethodDescriptor yX6_cloud.desc).map (fun d => d.parameters.length) = some 2 := by decide +kernel
theorem nX6_cloud_X6 : ∀ w ∈ u_ws RX6 TX6 60, w ∈ wsX6_cloud := by decide +kernel
theorem hX6_cloud_256 : Cond.fieldLink RX6 256 (TX6 45).1 (TX6 45).2.1 (TX6 45).2.2.1 ∈ wsX6_cloud := by decide +kernel
def fX6_cloud (σ : St) (a1 : Int32) (a2 : Int32) : Option (Int32 × St) := qlet (fun (y36 : Int32 × St) => (some (y36.1, y36.2))) (fun j36 => (qlet (fun (y25 : St) => (j36 ((-1 : Int32), y25))) (fun j25 => (if (σ.1 0 45) = (300 : Int32) then (j25 σ) else (qcall (fX6_isLand σ a1) (fun r12 σ12 => if r12 = (0 : Int32) then (j25 σ12) else (qcall (fX6_isEvening σ12 a2) (fun r19 σ19 => if r19 = (0 : Int32) then (j25 σ19) else (qcall (fX6_fact σ19 (1 : Int32) a1 a2) (fun r33 σ33 => j36 (r33, σ33)))))))))))
set_option maxHeartbeats 4000000 in
set_option maxRecDepth 100000 in
theorem kX6_cloud (l : Launch) (D : va_G) (ad : Nat → Nat) (cy : Nat → ClassId) (X : va_W) (A : Nat → Prop) (zs : Nat × Nat × Option Nat) (σ : St) (a1 : Int32) (a2 : Int32) (r0 : Int32) (σ0 : St) (h : fX6_cloud σ a1 a2 = some (r0, σ0)) : Met l yX6_cloud wsX6_cloud rmX6_cloud (qPc ceM 42 ad cy X A D zs [.ref (ad 0), .int a1, .int a2] σ) (qQi ceM 42 ad cy X A D r0 σ0) 0 0 A := by
  refine Met.ofW (cc := cX6_cloud) (maxL := 3) (ret := (some .int)) (by decide) rfl ?_
  intro p e s m args below meth c s₁ B hml hv
  obtain ⟨ha, hP, hK, hE, hD⟩ := hv
  have C : qC ceM 42 ad cy X A D zs cX6_cloud 3 RX6 wsX6_cloud p s m args meth c (some .int) := ⟨B.exec, B.bytes, hml, findClass_of_methodNamed B.named, atoms_spec (ws := wsX6_cloud) B.pre, hK, hD, B.returns, B.notSynchronized, hE⟩
  rw [show entryFrame m args 3 = entryFrame m ([.ref (ad 0), .int a1, .int a2] : List Value).toArray 3 by rw [ha]]
  refine q_entry (A := A) (Nat.le_of_ble_eq_true rfl) hP (lv := [(0, .ref (ad 0)), (1, .int a1), (2, .int a2)]) rfl ?_
  unfold fX6_cloud at h
  refine q_aload_n C dX6_cloud_0 rfl 0 rfl ?_
  refine q_get C (Cn := RX6) (T := TX6) (Nf := 60) (ci := 6) (id := 0) (k := 45) (v := .int (σ.1 0 45)) nX6_cloud_X6 (by decide) (ceM_0 ad cy _ _ _) rfl (by decide) rfl hX6_cloud_256 dX6_cloud_1 ?_
  refine q_sipush C (v := 300) dX6_cloud_4 (by decide) ?_
  refine q_join (G := fun (y36 : Int32 × St) => qVi ceM 42 ad cy X A D p l e (headSpec wsX6_cloud rmX6_cloud).room s m args below meth c 3 r0 σ0 36 [] [.int y36.1] y36.2) h (fun y36 h => ?_) (fun j36 hj36 h => ?_)
  · exact q_iret C rfl dX6_cloud_36 h
  refine q_join (G := fun (y25 : St) => qVi ceM 42 ad cy X A D p l e (headSpec wsX6_cloud rmX6_cloud).room s m args below meth c 3 r0 σ0 25 [] [] y25) h (fun y25 h => ?_) (fun j25 hj25 h => ?_)
  · refine q_iconst C (v := -1) dX6_cloud_25 (by decide) ?_
    refine q_goto C (tgt := 36) dX6_cloud_26 (by decide) ?_
    exact q_sub [] rfl (hj36 ((-1 : Int32), y25) h)
  refine q_icmp_eq C (tgt := 25) dX6_cloud_7 (by decide) h (fun h => ?_) (fun h => ?_)
  · exact q_sub [] rfl (hj25 σ h)
  · refine q_aload_n C dX6_cloud_10 rfl 0 rfl ?_
    refine q_iload_n C dX6_cloud_11 rfl 1 rfl ?_
    refine q_callVi C (rm := rmX6_isLand) (As := [.int a1]) (rest := []) (id := 0) (ci := 6) (fun r9 σ9 h9 => kX6_isLand l D ad cy X A zs σ a1 r9 σ9 h9) gX6_cloud_X6_isLand rfl rfl rfl hyX6_isLand ⟨Nat.le_of_ble_eq_true rfl, Nat.le_of_ble_eq_true rfl⟩ (by decide) (ceM_0 ad cy _ _ _) rfl rfl rfl (Nat.le_of_ble_eq_true rfl) dX6_cloud_12 ⟨Nat.zero_le _, Nat.zero_le _⟩ h (fun r12 σ12 h => ?_)
    refine q_if_eq C (tgt := 25) dX6_cloud_15 (by decide) h (fun h => ?_) (fun h => ?_)
    · exact q_sub [] rfl (hj25 σ12 h)
    · refine q_iload_n C dX6_cloud_18 rfl 2 rfl ?_
      refine q_callSi C (rm := rmX6_isEvening) (As := [.int a2]) (rest := []) (fun r9 σ9 h9 => kX6_isEvening l D ad cy X A zs σ12 a2 r9 σ9 h9) gX6_cloud_X6_isEvening rfl rfl rfl hyX6_isEvening ⟨Nat.le_of_ble_eq_true rfl, Nat.le_of_ble_eq_true rfl⟩ rfl rfl (Nat.le_of_ble_eq_true rfl) dX6_cloud_19 ⟨Nat.zero_le _, Nat.zero_le _⟩ h (fun r19 σ19 h => ?_)
      refine q_if_ne C (tgt := 29) dX6_cloud_22 (by decide) h (fun h => ?_) (fun h => ?_)
      · refine q_aload_n C dX6_cloud_29 rfl 0 rfl ?_
        refine q_iconst C (v := 1) dX6_cloud_30 (by decide) ?_
        refine q_iload_n C dX6_cloud_31 rfl 1 rfl ?_
        refine q_iload_n C dX6_cloud_32 rfl 2 rfl ?_
        refine q_callVi C (rm := rmX6_fact) (As := [.int (1 : Int32), .int a1, .int a2]) (rest := []) (id := 0) (ci := 6) (fun r9 σ9 h9 => kX6_fact l D ad cy X A zs σ19 (1 : Int32) a1 a2 r9 σ9 h9) gX6_cloud_X6_fact rfl rfl rfl hyX6_fact ⟨Nat.le_of_ble_eq_true rfl, Nat.le_of_ble_eq_true rfl⟩ (by decide) (ceM_0 ad cy _ _ _) rfl rfl rfl (Nat.le_of_ble_eq_true rfl) dX6_cloud_33 ⟨Nat.zero_le _, Nat.zero_le _⟩ h (fun r33 σ33 h => ?_)
        exact q_sub [] rfl (hj36 (r33, σ33) h)
      · exact q_sub [] rfl (hj25 σ19 h)
abbrev rmX6_ageOf : Room := { frames := 0, cells := 0, slots := 0, locals := 0 }
theorem hyX6_ageOf : yX6_ageOf.cls = RX6 ∧ yX6_ageOf.cls ≠ "java/lang/invoke/MethodHandle" ∧ yX6_ageOf.cls ≠ "java/lang/invoke/VarHandle" ∧ (parseMethodDescriptor yX6_ageOf.desc).map (fun d => d.parameters.length) = some 2 := by decide +kernel
theorem nX6_ageOf_X6 : ∀ w ∈ u_ws RX6 TX6 60, w ∈ wsX6_ageOf := by decide +kernel
theorem hX6_ageOf_86 : Cond.fieldLink RX6 86 (TX6 38).1 (TX6 38).2.1 (TX6 38).2.2.1 ∈ wsX6_ageOf := by decide +kernel
theorem hX6_ageOf_259 : Cond.fieldLink RX6 259 (TX6 35).1 (TX6 35).2.1 (TX6 35).2.2.1 ∈ wsX6_ageOf := by decide +kernel
theorem hX6_ageOf_83 : Cond.fieldLink RX6 83 (TX6 36).1 (TX6 36).2.1 (TX6 36).2.2.1 ∈ wsX6_ageOf := by decide +kernel
def fX6_ageOf_L (a1 : Int32) (a2 : Int32) : Nat → Int32 → Int32 → Int32 → St → Option (Int32 × St)
  | 0, _, _, _, _ => none
  | n + 1, v3, v4, v5, σ => if (σ.1 0 35) ≤ v5 then (some (v4, σ)) else (qix v5 14 (qlet (fun (y52 : Int32) => (qlet (v5 + (1 : Int32)) (fun x52 => fX6_ageOf_L a1 a2 n v3 y52 x52 σ))) (fun j52 => (if v3 < (σ.1 22 v5.toNatClampNeg) then (j52 v4) else (qix v5 14 (qlet (v3 - (σ.1 22 v5.toNatClampNeg)) (fun x50 => j52 x50)))))))
def fX6_ageOf (σ : St) (a1 : Int32) (a2 : Int32) : Option (Int32 × St) := qix a1 6 (qlet ((((24 : Int32) * a2) + (18 : Int32)) + (σ.1 23 a1.toNatClampNeg)) (fun x14 => fX6_ageOf_L a1 a2 100000 x14 (-1 : Int32) (0 : Int32) σ))
set_option maxHeartbeats 4000000 in
set_option maxRecDepth 100000 in
theorem kX6_ageOf_L {ad : Nat → Nat} {cy : Nat → ClassId} {X : va_W} {A : Nat → Prop} {D : va_G} {zs : Nat × Nat × Option Nat} {p : Program} {l : Launch} {e : Env} {s : State} {m : MethodId} {args : Array Value} {below : List Frame} {meth : Method} {c : Code} {a1 : Int32} {a2 : Int32} (C : qC ceM 42 ad cy X A D zs cX6_ageOf 6 RX6 wsX6_ageOf p s m args meth c (some .int)) (r0 : Int32) (σ0 : St) (n : Nat) : (∀ (v3 : Int32) (v4 : Int32) (v5 : Int32) (σ : St), fX6_ageOf_L a1 a2 n v3 v4 v5 σ = some (r0, σ0) → qVi ceM 42 ad cy X A D p l e (headSpec wsX6_ageOf rmX6_ageOf).room s m args below meth c 6 r0 σ0 21 [(0, .ref (ad 0)), (3, .int v3), (4, .int v4), (5, .int v5)] [] σ) := by
  induction n with
  | zero =>
    intro v3 v4 v5 σ h; cases h
  | succ n ih =>
    intro v3 v4 v5 σ h
    rw [fX6_ageOf_L] at h
    refine q_iload C dX6_ageOf_21 3 rfl ?_
    refine q_aload_n C dX6_ageOf_23 rfl 0 rfl ?_
    refine q_get C (Cn := RX6) (T := TX6) (Nf := 60) (ci := 6) (id := 0) (k := 35) (v := .int (σ.1 0 35)) nX6_ageOf_X6 (by decide) (ceM_0 ad cy _ _ _) rfl (by decide) rfl hX6_ageOf_259 dX6_ageOf_24 ?_
    refine q_icmp_ge C (tgt := 58) dX6_ageOf_27 (by decide) h (fun h => ?_) (fun h => ?_)
    · refine q_iload C dX6_ageOf_58 2 rfl ?_
      exact q_iret C rfl dX6_ageOf_60 h
    · refine q_aload_n C dX6_ageOf_30 rfl 0 rfl ?_
      refine q_get C (Cn := RX6) (T := TX6) (Nf := 60) (ci := 6) (id := 0) (k := 36) (v := .ref (ad 22)) nX6_ageOf_X6 (by decide) (ceM_0 ad cy _ _ _) rfl (by decide) rfl hX6_ageOf_83 dX6_ageOf_31 ?_
      refine q_iload C dX6_ageOf_34 3 rfl ?_
      refine q_iald C (id := 22) (by decide) (ceM_22 ad cy _ _ _) dX6_ageOf_36 h (fun h => ?_)
      refine q_iload_n C dX6_ageOf_37 rfl 1 rfl ?_
      refine q_join (G := fun (y52 : Int32) => qVi ceM 42 ad cy X A D p l e (headSpec wsX6_ageOf rmX6_ageOf).room s m args below meth c 6 r0 σ0 52 [(0, .ref (ad 0)), (3, .int v3), (4, .int y52), (5, .int v5)] [] σ) h (fun y52 h => ?_) (fun j52 hj52 h => ?_)
      · refine q_iincL C dX6_ageOf_52 3 rfl (by decide) (nv := 1) (by decide) h (lw := fun x52 => [(0, .ref (ad 0)), (3, .int v3), (4, .int y52), (5, .int x52)]) (fun _ => rfl) (fun x52 h => ?_)
        refine q_goto C (tgt := 21) dX6_ageOf_55 (by decide) ?_
        exact q_sub [0, 1, 2, 3] rfl (ih v3 y52 x52 σ h)
      refine q_icmp_gt C (tgt := 52) dX6_ageOf_38 (by decide) h (fun h => ?_) (fun h => ?_)
      · exact q_sub [0, 1, 2, 3] rfl (hj52 v4 h)
      · refine q_iload_n C dX6_ageOf_41 rfl 1 rfl ?_
        refine q_aload_n C dX6_ageOf_42 rfl 0 rfl ?_
        refine q_get C (Cn := RX6) (T := TX6) (Nf := 60) (ci := 6) (id := 0) (k := 36) (v := .ref (ad 22)) nX6_ageOf_X6 (by decide) (ceM_0 ad cy _ _ _) rfl (by decide) rfl hX6_ageOf_83 dX6_ageOf_43 ?_
        refine q_iload C dX6_ageOf_46 3 rfl ?_
        refine q_iald C (id := 22) (by decide) (ceM_22 ad cy _ _ _) dX6_ageOf_48 h (fun h => ?_)
        refine q_isub C dX6_ageOf_49 ?_
        refine q_istoreL C dX6_ageOf_50 (by decide) h (lw := fun x50 => [(0, .ref (ad 0)), (3, .int v3), (4, .int x50), (5, .int v5)]) (fun _ => rfl) (fun x50 h => ?_)
        exact q_sub [0, 1, 2, 3] rfl (hj52 x50 h)
set_option maxHeartbeats 4000000 in
set_option maxRecDepth 100000 in
theorem kX6_ageOf (l : Launch) (D : va_G) (ad : Nat → Nat) (cy : Nat → ClassId) (X : va_W) (A : Nat → Prop) (zs : Nat × Nat × Option Nat) (σ : St) (a1 : Int32) (a2 : Int32) (r0 : Int32) (σ0 : St) (h : fX6_ageOf σ a1 a2 = some (r0, σ0)) : Met l yX6_ageOf wsX6_ageOf rmX6_ageOf (qPc ceM 42 ad cy X A D zs [.ref (ad 0), .int a1, .int a2] σ) (qQi ceM 42 ad cy X A D r0 σ0) 0 0 A := by
  refine Met.ofW (cc := cX6_ageOf) (maxL := 6) (ret := (some .int)) (by decide) rfl ?_
  intro p e s m args below meth c s₁ B hml hv
  obtain ⟨ha, hP, hK, hE, hD⟩ := hv
  have C : qC ceM 42 ad cy X A D zs cX6_ageOf 6 RX6 wsX6_ageOf p s m args meth c (some .int) := ⟨B.exec, B.bytes, hml, findClass_of_methodNamed B.named, atoms_spec (ws := wsX6_ageOf) B.pre, hK, hD, B.returns, B.notSynchronized, hE⟩
  rw [show entryFrame m args 6 = entryFrame m ([.ref (ad 0), .int a1, .int a2] : List Value).toArray 6 by rw [ha]]
  refine q_entry (A := A) (Nat.le_of_ble_eq_true rfl) hP (lv := [(0, .ref (ad 0)), (1, .int a1), (2, .int a2)]) rfl ?_
  unfold fX6_ageOf at h
  refine q_bipush C (v := 24) dX6_ageOf_0 (by decide) ?_
  refine q_iload_n C dX6_ageOf_2 rfl 2 rfl ?_
  refine q_imul C dX6_ageOf_3 ?_
  refine q_bipush C (v := 18) dX6_ageOf_4 (by decide) ?_
  refine q_iadd C dX6_ageOf_6 ?_
  refine q_aload_n C dX6_ageOf_7 rfl 0 rfl ?_
  refine q_get C (Cn := RX6) (T := TX6) (Nf := 60) (ci := 6) (id := 0) (k := 38) (v := .ref (ad 23)) nX6_ageOf_X6 (by decide) (ceM_0 ad cy _ _ _) rfl (by decide) rfl hX6_ageOf_86 dX6_ageOf_8 ?_
  refine q_iload_n C dX6_ageOf_11 rfl 1 rfl ?_
  refine q_iald C (id := 23) (by decide) (ceM_23 ad cy _ _ _) dX6_ageOf_12 h (fun h => ?_)
  refine q_iadd C dX6_ageOf_13 ?_
  refine q_istore_nL C dX6_ageOf_14 rfl (by decide) h (lw := fun x14 => [(0, .ref (ad 0)), (1, .int a1), (2, .int a2), (3, .int x14)]) (fun _ => rfl) (fun x14 h => ?_)
  refine q_iconst C (v := -1) dX6_ageOf_15 (by decide) ?_
  refine q_istore C dX6_ageOf_16 (by decide) (lv' := [(0, .ref (ad 0)), (1, .int a1), (2, .int a2), (3, .int x14), (4, .int (-1 : Int32))]) rfl ?_
  refine q_iconst C (v := 0) dX6_ageOf_18 (by decide) ?_
  refine q_istore C dX6_ageOf_19 (by decide) (lv' := [(0, .ref (ad 0)), (1, .int a1), (2, .int a2), (3, .int x14), (4, .int (-1 : Int32)), (5, .int (0 : Int32))]) rfl ?_
  exact q_sub [0, 3, 4, 5] rfl ((kX6_ageOf_L C r0 σ0 100000) x14 (-1 : Int32) (0 : Int32) σ h)
abbrev rmX6_age : Room := { frames := 1, cells := 0, slots := 0, locals := 25 }
theorem hyX6_age : yX6_age.cls = RX6 ∧ yX6_age.cls ≠ "java/lang/invoke/MethodHandle" ∧ yX6_age.cls ≠ "java/lang/invoke/VarHandle" ∧ (parseMethodDescriptor yX6_age.desc).map (fun d => d.parameters.length) = some 2 := by decide +kernel
def fX6_age (σ : St) (a1 : Int32) (a2 : Int32) : Option (Int32 × St) := qcall (fX6_isLand σ a1) (fun r2 σ2 => qlet (fun (y25 : Int32 × St) => (some (y25.1, y25.2))) (fun j25 => (qlet (fun (y24 : St) => (j25 ((-1 : Int32), y24))) (fun j24 => (if r2 = (0 : Int32) then (j24 σ2) else (qcall (fX6_isEvening σ2 a2) (fun r9 σ9 => if r9 = (0 : Int32) then (j24 σ9) else (qcall (fX6_ageOf σ9 a1 a2) (fun r18 σ18 => j25 (r18, σ18))))))))))
set_option maxHeartbeats 4000000 in
set_option maxRecDepth 100000 in
theorem kX6_age (l : Launch) (D : va_G) (ad : Nat → Nat) (cy : Nat → ClassId) (X : va_W) (A : Nat → Prop) (zs : Nat × Nat × Option Nat) (σ : St) (a1 : Int32) (a2 : Int32) (r0 : Int32) (σ0 : St) (h : fX6_age σ a1 a2 = some (r0, σ0)) : Met l yX6_age wsX6_age rmX6_age (qPc ceM 42 ad cy X A D zs [.ref (ad 0), .int a1, .int a2] σ) (qQi ceM 42 ad cy X A D r0 σ0) 0 0 A := by
  refine Met.ofW (cc := cX6_age) (maxL := 3) (ret := (some .int)) (by decide) rfl ?_
  intro p e s m args below meth c s₁ B hml hv
  obtain ⟨ha, hP, hK, hE, hD⟩ := hv
  have C : qC ceM 42 ad cy X A D zs cX6_age 3 RX6 wsX6_age p s m args meth c (some .int) := ⟨B.exec, B.bytes, hml, findClass_of_methodNamed B.named, atoms_spec (ws := wsX6_age) B.pre, hK, hD, B.returns, B.notSynchronized, hE⟩
  rw [show entryFrame m args 3 = entryFrame m ([.ref (ad 0), .int a1, .int a2] : List Value).toArray 3 by rw [ha]]
  refine q_entry (A := A) (Nat.le_of_ble_eq_true rfl) hP (lv := [(0, .ref (ad 0)), (1, .int a1), (2, .int a2)]) rfl ?_
  unfold fX6_age at h
  refine q_aload_n C dX6_age_0 rfl 0 rfl ?_
  refine q_iload_n C dX6_age_1 rfl 1 rfl ?_
  refine q_callVi C (rm := rmX6_isLand) (As := [.int a1]) (rest := []) (id := 0) (ci := 6) (fun r9 σ9 h9 => kX6_isLand l D ad cy X A zs σ a1 r9 σ9 h9) gX6_age_X6_isLand rfl rfl rfl hyX6_isLand ⟨Nat.le_of_ble_eq_true rfl, Nat.le_of_ble_eq_true rfl⟩ (by decide) (ceM_0 ad cy _ _ _) rfl rfl rfl (Nat.le_of_ble_eq_true rfl) dX6_age_2 ⟨Nat.zero_le _, Nat.zero_le _⟩ h (fun r2 σ2 h => ?_)
  refine q_join (G := fun (y25 : Int32 × St) => qVi ceM 42 ad cy X A D p l e (headSpec wsX6_age rmX6_age).room s m args below meth c 3 r0 σ0 25 [] [.int y25.1] y25.2) h (fun y25 h => ?_) (fun j25 hj25 h => ?_)
  · exact q_iret C rfl dX6_age_25 h
  refine q_join (G := fun (y24 : St) => qVi ceM 42 ad cy X A D p l e (headSpec wsX6_age rmX6_age).room s m args below meth c 3 r0 σ0 24 [] [] y24) h (fun y24 h => ?_) (fun j24 hj24 h => ?_)
  · refine q_iconst C (v := -1) dX6_age_24 (by decide) ?_
    exact q_sub [] rfl (hj25 ((-1 : Int32), y24) h)
  refine q_if_eq C (tgt := 24) dX6_age_5 (by decide) h (fun h => ?_) (fun h => ?_)
  · exact q_sub [] rfl (hj24 σ2 h)
  · refine q_iload_n C dX6_age_8 rfl 2 rfl ?_
    refine q_callSi C (rm := rmX6_isEvening) (As := [.int a2]) (rest := []) (fun r9 σ9 h9 => kX6_isEvening l D ad cy X A zs σ2 a2 r9 σ9 h9) gX6_age_X6_isEvening rfl rfl rfl hyX6_isEvening ⟨Nat.le_of_ble_eq_true rfl, Nat.le_of_ble_eq_true rfl⟩ rfl rfl (Nat.le_of_ble_eq_true rfl) dX6_age_9 ⟨Nat.zero_le _, Nat.zero_le _⟩ h (fun r9 σ9 h => ?_)
    refine q_if_eq C (tgt := 24) dX6_age_12 (by decide) h (fun h => ?_) (fun h => ?_)
    · exact q_sub [] rfl (hj24 σ9 h)
    · refine q_aload_n C dX6_age_15 rfl 0 rfl ?_
      refine q_iload_n C dX6_age_16 rfl 1 rfl ?_
      refine q_iload_n C dX6_age_17 rfl 2 rfl ?_
      refine q_callVi C (rm := rmX6_ageOf) (As := [.int a1, .int a2]) (rest := []) (id := 0) (ci := 6) (fun rZ σZ hZ => kX6_ageOf l D ad cy X A zs σ9 a1 a2 rZ σZ hZ) gX6_age_X6_ageOf rfl rfl rfl hyX6_ageOf ⟨Nat.le_of_ble_eq_true rfl, Nat.le_of_ble_eq_true rfl⟩ (by decide) (ceM_0 ad cy _ _ _) rfl rfl rfl (Nat.le_of_ble_eq_true rfl) dX6_age_18 ⟨Nat.zero_le _, Nat.zero_le _⟩ h (fun r18 σ18 h => ?_)
      refine q_goto C (tgt := 25) dX6_age_21 (by decide) ?_
      exact q_sub [] rfl (hj25 (r18, σ18) h)
abbrev rmX6_lightOf : Room := { frames := 1, cells := 0, slots := 0, locals := 25 }
theorem hyX6_lightOf : yX6_lightOf.cls = RX6 ∧ yX6_lightOf.cls ≠ "java/lang/invoke/MethodHandle" ∧ yX6_lightOf.cls ≠ "java/lang/invoke/VarHandle" ∧ (parseMethodDescriptor yX6_lightOf.desc).map (fun d => d.parameters.length) = some 2 := by decide +kernel
theorem nX6_lightOf_X6 : ∀ w ∈ u_ws RX6 TX6 60, w ∈ wsX6_lightOf := by decide +kernel
theorem hX6_lightOf_92 : Cond.fieldLink RX6 92 (TX6 40).1 (TX6 40).2.1 (TX6 40).2.2.1 ∈ wsX6_lightOf := by decide +kernel
theorem hX6_lightOf_95 : Cond.fieldLink RX6 95 (TX6 41).1 (TX6 41).2.1 (TX6 41).2.2.1 ∈ wsX6_lightOf := by decide +kernel
def fX6_lightOf (σ : St) (a1 : Int32) (a2 : Int32) : Option (Int32 × St) := qcall (fX6_ageOf σ a1 a2) (fun r3 σ3 => if r3 = (-1 : Int32) then (some ((0 : Int32), σ3)) else (qix a1 6 (if (σ3.1 25 a1.toNatClampNeg) = (-1 : Int32) then (some ((1 : Int32), σ3)) else (qix a1 6 (qlet (fun (y56 : Int32) => (qix (((60 : Int32) * a1) + y56) 360 (some ((σ3.1 26 (((60 : Int32) * a1) + y56).toNatClampNeg), σ3)))) (fun j56 => (if (σ3.1 25 a1.toNatClampNeg) ≤ r3 then (qix a1 6 (j56 ((σ3.1 25 a1.toNatClampNeg) - (1 : Int32)))) else (j56 r3))))))))
set_option maxHeartbeats 4000000 in
set_option maxRecDepth 100000 in
theorem kX6_lightOf (l : Launch) (D : va_G) (ad : Nat → Nat) (cy : Nat → ClassId) (X : va_W) (A : Nat → Prop) (zs : Nat × Nat × Option Nat) (σ : St) (a1 : Int32) (a2 : Int32) (r0 : Int32) (σ0 : St) (h : fX6_lightOf σ a1 a2 = some (r0, σ0)) : Met l yX6_lightOf wsX6_lightOf rmX6_lightOf (qPc ceM 42 ad cy X A D zs [.ref (ad 0), .int a1, .int a2] σ) (qQi ceM 42 ad cy X A D r0 σ0) 0 0 A := by
  refine Met.ofW (cc := cX6_lightOf) (maxL := 4) (ret := (some .int)) (by decide) rfl ?_
  intro p e s m args below meth c s₁ B hml hv
  obtain ⟨ha, hP, hK, hE, hD⟩ := hv
  have C : qC ceM 42 ad cy X A D zs cX6_lightOf 4 RX6 wsX6_lightOf p s m args meth c (some .int) := ⟨B.exec, B.bytes, hml, findClass_of_methodNamed B.named, atoms_spec (ws := wsX6_lightOf) B.pre, hK, hD, B.returns, B.notSynchronized, hE⟩
  rw [show entryFrame m args 4 = entryFrame m ([.ref (ad 0), .int a1, .int a2] : List Value).toArray 4 by rw [ha]]
  refine q_entry (A := A) (Nat.le_of_ble_eq_true rfl) hP (lv := [(0, .ref (ad 0)), (1, .int a1), (2, .int a2)]) rfl ?_
  unfold fX6_lightOf at h
  refine q_aload_n C dX6_lightOf_0 rfl 0 rfl ?_
  refine q_iload_n C dX6_lightOf_1 rfl 1 rfl ?_
  refine q_iload_n C dX6_lightOf_2 rfl 2 rfl ?_
  refine q_callVi C (rm := rmX6_ageOf) (As := [.int a1, .int a2]) (rest := []) (id := 0) (ci := 6) (fun r9 σ9 h9 => kX6_ageOf l D ad cy X A zs σ a1 a2 r9 σ9 h9) gX6_lightOf_X6_ageOf rfl rfl rfl hyX6_ageOf ⟨Nat.le_of_ble_eq_true rfl, Nat.le_of_ble_eq_true rfl⟩ (by decide) (ceM_0 ad cy _ _ _) rfl rfl rfl (Nat.le_of_ble_eq_true rfl) dX6_lightOf_3 ⟨Nat.zero_le _, Nat.zero_le _⟩ h (fun r3 σ3 h => ?_)
  refine q_istore_n C dX6_lightOf_6 rfl (by decide) (lv' := [(0, .ref (ad 0)), (1, .int a1), (2, .int a2), (3, .int r3)]) rfl ?_
  refine q_iload_n C dX6_lightOf_7 rfl 3 rfl ?_
  refine q_iconst C (v := -1) dX6_lightOf_8 (by decide) ?_
  refine q_icmp_ne C (tgt := 14) dX6_lightOf_9 (by decide) h (fun h => ?_) (fun h => ?_)
  · refine q_aload_n C dX6_lightOf_14 rfl 0 rfl ?_
    refine q_get C (Cn := RX6) (T := TX6) (Nf := 60) (ci := 6) (id := 0) (k := 40) (v := .ref (ad 25)) nX6_lightOf_X6 (by decide) (ceM_0 ad cy _ _ _) rfl (by decide) rfl hX6_lightOf_92 dX6_lightOf_15 ?_
    refine q_iload_n C dX6_lightOf_18 rfl 1 rfl ?_
    refine q_iald C (id := 25) (by decide) (ceM_25 ad cy _ _ _) dX6_lightOf_19 h (fun h => ?_)
    refine q_iconst C (v := -1) dX6_lightOf_20 (by decide) ?_
    refine q_icmp_ne C (tgt := 26) dX6_lightOf_21 (by decide) h (fun h => ?_) (fun h => ?_)
    · refine q_aload_n C dX6_lightOf_26 rfl 0 rfl ?_
      refine q_get C (Cn := RX6) (T := TX6) (Nf := 60) (ci := 6) (id := 0) (k := 41) (v := .ref (ad 26)) nX6_lightOf_X6 (by decide) (ceM_0 ad cy _ _ _) rfl (by decide) rfl hX6_lightOf_95 dX6_lightOf_27 ?_
      refine q_bipush C (v := 60) dX6_lightOf_30 (by decide) ?_
      refine q_iload_n C dX6_lightOf_32 rfl 1 rfl ?_
      refine q_imul C dX6_lightOf_33 ?_
      refine q_iload_n C dX6_lightOf_34 rfl 3 rfl ?_
      refine q_aload_n C dX6_lightOf_35 rfl 0 rfl ?_
      refine q_get C (Cn := RX6) (T := TX6) (Nf := 60) (ci := 6) (id := 0) (k := 40) (v := .ref (ad 25)) nX6_lightOf_X6 (by decide) (ceM_0 ad cy _ _ _) rfl (by decide) rfl hX6_lightOf_92 dX6_lightOf_36 ?_
      refine q_iload_n C dX6_lightOf_39 rfl 1 rfl ?_
      refine q_iald C (id := 25) (by decide) (ceM_25 ad cy _ _ _) dX6_lightOf_40 h (fun h => ?_)
      refine q_join (G := fun (y56 : Int32) => qVi ceM 42 ad cy X A D p l e (headSpec wsX6_lightOf rmX6_lightOf).room s m args below meth c 4 r0 σ0 56 [] [.int y56, .int ((60 : Int32) * a1), .ref (ad 26)] σ3) h (fun y56 h => ?_) (fun j56 hj56 h => ?_)
      · refine q_iadd C dX6_lightOf_56 ?_
        refine q_iald C (id := 26) (by decide) (ceM_26 ad cy _ _ _) dX6_lightOf_57 h (fun h => ?_)
        exact q_iret C rfl dX6_lightOf_58 h
      refine q_icmp_ge C (tgt := 48) dX6_lightOf_41 (by decide) h (fun h => ?_) (fun h => ?_)
      · refine q_aload_n C dX6_lightOf_48 rfl 0 rfl ?_
        refine q_get C (Cn := RX6) (T := TX6) (Nf := 60) (ci := 6) (id := 0) (k := 40) (v := .ref (ad 25)) nX6_lightOf_X6 (by decide) (ceM_0 ad cy _ _ _) rfl (by decide) rfl hX6_lightOf_92 dX6_lightOf_49 ?_
        refine q_iload_n C dX6_lightOf_52 rfl 1 rfl ?_
        refine q_iald C (id := 25) (by decide) (ceM_25 ad cy _ _ _) dX6_lightOf_53 h (fun h => ?_)
        refine q_iconst C (v := 1) dX6_lightOf_54 (by decide) ?_
        refine q_isub C dX6_lightOf_55 ?_
        exact q_sub [] rfl (hj56 ((σ3.1 25 a1.toNatClampNeg) - (1 : Int32)) h)
      · refine q_iload_n C dX6_lightOf_44 rfl 3 rfl ?_
        refine q_goto C (tgt := 56) dX6_lightOf_45 (by decide) ?_
        exact q_sub [] rfl (hj56 r3 h)
    · refine q_iconst C (v := 1) dX6_lightOf_24 (by decide) ?_
      exact q_iret C rfl dX6_lightOf_25 h
  · refine q_iconst C (v := 0) dX6_lightOf_12 (by decide) ?_
    exact q_iret C rfl dX6_lightOf_13 h
abbrev rmX6_light : Room := { frames := 2, cells := 0, slots := 0, locals := 48 }
theorem hyX6_light : yX6_light.cls = RX6 ∧ yX6_light.cls ≠ "java/lang/invoke/MethodHandle" ∧ yX6_light.cls ≠ "java/lang/invoke/VarHandle" ∧ (parseMethodDescriptor yX6_light.desc).map (fun d => d.parameters.length) = some 2 := by decide +kernel
def fX6_light (σ : St) (a1 : Int32) (a2 : Int32) : Option (Int32 × St) := qcall (fX6_isLand σ a1) (fun r2 σ2 => qlet (fun (y25 : Int32 × St) => (some (y25.1, y25.2))) (fun j25 => (qlet (fun (y24 : St) => (j25 ((-1 : Int32), y24))) (fun j24 => (if r2 = (0 : Int32) then (j24 σ2) else (qcall (fX6_isEvening σ2 a2) (fun r9 σ9 => if r9 = (0 : Int32) then (j24 σ9) else (qcall (fX6_lightOf σ9 a1 a2) (fun r18 σ18 => j25 (r18, σ18))))))))))
set_option maxHeartbeats 4000000 in
set_option maxRecDepth 100000 in
theorem kX6_light (l : Launch) (D : va_G) (ad : Nat → Nat) (cy : Nat → ClassId) (X : va_W) (A : Nat → Prop) (zs : Nat × Nat × Option Nat) (σ : St) (a1 : Int32) (a2 : Int32) (r0 : Int32) (σ0 : St) (h : fX6_light σ a1 a2 = some (r0, σ0)) : Met l yX6_light wsX6_light rmX6_light (qPc ceM 42 ad cy X A D zs [.ref (ad 0), .int a1, .int a2] σ) (qQi ceM 42 ad cy X A D r0 σ0) 0 0 A := by
  refine Met.ofW (cc := cX6_light) (maxL := 3) (ret := (some .int)) (by decide) rfl ?_
  intro p e s m args below meth c s₁ B hml hv
  obtain ⟨ha, hP, hK, hE, hD⟩ := hv
  have C : qC ceM 42 ad cy X A D zs cX6_light 3 RX6 wsX6_light p s m args meth c (some .int) := ⟨B.exec, B.bytes, hml, findClass_of_methodNamed B.named, atoms_spec (ws := wsX6_light) B.pre, hK, hD, B.returns, B.notSynchronized, hE⟩
  rw [show entryFrame m args 3 = entryFrame m ([.ref (ad 0), .int a1, .int a2] : List Value).toArray 3 by rw [ha]]
  refine q_entry (A := A) (Nat.le_of_ble_eq_true rfl) hP (lv := [(0, .ref (ad 0)), (1, .int a1), (2, .int a2)]) rfl ?_
  unfold fX6_light at h
  refine q_aload_n C dX6_light_0 rfl 0 rfl ?_
  refine q_iload_n C dX6_light_1 rfl 1 rfl ?_
  refine q_callVi C (rm := rmX6_isLand) (As := [.int a1]) (rest := []) (id := 0) (ci := 6) (fun r9 σ9 h9 => kX6_isLand l D ad cy X A zs σ a1 r9 σ9 h9) gX6_light_X6_isLand rfl rfl rfl hyX6_isLand ⟨Nat.le_of_ble_eq_true rfl, Nat.le_of_ble_eq_true rfl⟩ (by decide) (ceM_0 ad cy _ _ _) rfl rfl rfl (Nat.le_of_ble_eq_true rfl) dX6_light_2 ⟨Nat.zero_le _, Nat.zero_le _⟩ h (fun r2 σ2 h => ?_)
  refine q_join (G := fun (y25 : Int32 × St) => qVi ceM 42 ad cy X A D p l e (headSpec wsX6_light rmX6_light).room s m args below meth c 3 r0 σ0 25 [] [.int y25.1] y25.2) h (fun y25 h => ?_) (fun j25 hj25 h => ?_)
  · exact q_iret C rfl dX6_light_25 h
  refine q_join (G := fun (y24 : St) => qVi ceM 42 ad cy X A D p l e (headSpec wsX6_light rmX6_light).room s m args below meth c 3 r0 σ0 24 [] [] y24) h (fun y24 h => ?_) (fun j24 hj24 h => ?_)
  · refine q_iconst C (v := -1) dX6_light_24 (by decide) ?_
    exact q_sub [] rfl (hj25 ((-1 : Int32), y24) h)
  refine q_if_eq C (tgt := 24) dX6_light_5 (by decide) h (fun h => ?_) (fun h => ?_)
  · exact q_sub [] rfl (hj24 σ2 h)
  · refine q_iload_n C dX6_light_8 rfl 2 rfl ?_
    refine q_callSi C (rm := rmX6_isEvening) (As := [.int a2]) (rest := []) (fun r9 σ9 h9 => kX6_isEvening l D ad cy X A zs σ2 a2 r9 σ9 h9) gX6_light_X6_isEvening rfl rfl rfl hyX6_isEvening ⟨Nat.le_of_ble_eq_true rfl, Nat.le_of_ble_eq_true rfl⟩ rfl rfl (Nat.le_of_ble_eq_true rfl) dX6_light_9 ⟨Nat.zero_le _, Nat.zero_le _⟩ h (fun r9 σ9 h => ?_)
    refine q_if_eq C (tgt := 24) dX6_light_12 (by decide) h (fun h => ?_) (fun h => ?_)
    · exact q_sub [] rfl (hj24 σ9 h)
    · refine q_aload_n C dX6_light_15 rfl 0 rfl ?_
      refine q_iload_n C dX6_light_16 rfl 1 rfl ?_
      refine q_iload_n C dX6_light_17 rfl 2 rfl ?_
      refine q_callVi C (rm := rmX6_lightOf) (As := [.int a1, .int a2]) (rest := []) (id := 0) (ci := 6) (fun rZ σZ hZ => kX6_lightOf l D ad cy X A zs σ9 a1 a2 rZ σZ hZ) gX6_light_X6_lightOf rfl rfl rfl hyX6_lightOf ⟨Nat.le_of_ble_eq_true rfl, Nat.le_of_ble_eq_true rfl⟩ (by decide) (ceM_0 ad cy _ _ _) rfl rfl rfl (Nat.le_of_ble_eq_true rfl) dX6_light_18 ⟨Nat.zero_le _, Nat.zero_le _⟩ h (fun r18 σ18 h => ?_)
      refine q_goto C (tgt := 25) dX6_light_21 (by decide) ?_
      exact q_sub [] rfl (hj25 (r18, σ18) h)
abbrev rmX6_hasCloud : Room := { frames := 0, cells := 0, slots := 0, locals := 0 }
theorem hyX6_hasCloud : yX6_hasCloud.cls = RX6 ∧ yX6_hasCloud.cls ≠ "java/lang/invoke/MethodHandle" ∧ yX6_hasCloud.cls ≠ "java/lang/invoke/VarHandle" ∧ (parseMethodDescriptor yX6_hasCloud.desc).map (fun d => d.parameters.length) = some 3 := by decide +kernel
theorem nX6_hasCloud_X6 : ∀ w ∈ u_ws RX6 TX6 60, w ∈ wsX6_hasCloud := by decide +kernel
theorem hX6_hasCloud_104 : Cond.fieldLink RX6 104 (TX6 46).1 (TX6 46).2.1 (TX6 46).2.2.1 ∈ wsX6_hasCloud := by decide +kernel
theorem hX6_hasCloud_107 : Cond.fieldLink RX6 107 (TX6 47).1 (TX6 47).2.1 (TX6 47).2.2.1 ∈ wsX6_hasCloud := by decide +kernel
theorem hX6_hasCloud_110 : Cond.fieldLink RX6 110 (TX6 48).1 (TX6 48).2.1 (TX6 48).2.2.1 ∈ wsX6_hasCloud := by decide +kernel
def fX6_hasCloud_L (a1 : Int32) (a2 : Int32) (a3 : Int32) : Nat → Int32 → St → Option (Int32 × St)
  | 0, _, _ => none
  | n + 1, v4, σ => if a3 ≤ v4 then (qzz (0 : Int32) (some ((0 : Int32), σ))) else (qix v4 300 (qlet (fun (y43 : Unit) => (qlet (v4 + (1 : Int32)) (fun x43 => fX6_hasCloud_L a1 a2 a3 n x43 σ))) (fun j43 => (if (σ.1 29 v4.toNatClampNeg) = (0 : Int32) then (j43 ()) else (qix v4 300 (if (σ.1 30 v4.toNatClampNeg) = a1 then (qix v4 300 (if (σ.1 31 v4.toNatClampNeg) = a2 then (qzz (1 : Int32) (some ((1 : Int32), σ))) else (j43 ()))) else (j43 ())))))))
def fX6_hasCloud (σ : St) (a1 : Int32) (a2 : Int32) (a3 : Int32) : Option (Int32 × St) := fX6_hasCloud_L a1 a2 a3 100000 (0 : Int32) σ
set_option maxHeartbeats 4000000 in
set_option maxRecDepth 100000 in
theorem kX6_hasCloud_L {ad : Nat → Nat} {cy : Nat → ClassId} {X : va_W} {A : Nat → Prop} {D : va_G} {zs : Nat × Nat × Option Nat} {p : Program} {l : Launch} {e : Env} {s : State} {m : MethodId} {args : Array Value} {below : List Frame} {meth : Method} {c : Code} {a1 : Int32} {a2 : Int32} {a3 : Int32} (C : qC ceM 42 ad cy X A D zs cX6_hasCloud 5 RX6 wsX6_hasCloud p s m args meth c (some .boolean)) (r0 : Int32) (σ0 : St) (n : Nat) : (∀ (v4 : Int32) (σ : St), fX6_hasCloud_L a1 a2 a3 n v4 σ = some (r0, σ0) → qVi ceM 42 ad cy X A D p l e (headSpec wsX6_hasCloud rmX6_hasCloud).room s m args below meth c 5 r0 σ0 3 [(0, .ref (ad 0)), (1, .int a1), (2, .int a2), (3, .int a3), (4, .int v4)] [] σ) := by
  induction n with
  | zero =>
    intro v4 σ h; cases h
  | succ n ih =>
    intro v4 σ h
    rw [fX6_hasCloud_L] at h
    refine q_iload C dX6_hasCloud_3 4 rfl ?_
    refine q_iload_n C dX6_hasCloud_5 rfl 3 rfl ?_
    refine q_icmp_ge C (tgt := 49) dX6_hasCloud_6 (by decide) h (fun h => ?_) (fun h => ?_)
    · refine q_iconst C (v := 0) dX6_hasCloud_49 (by decide) ?_
      exact q_zret C rfl dX6_hasCloud_50 h
    · refine q_aload_n C dX6_hasCloud_9 rfl 0 rfl ?_
      refine q_get C (Cn := RX6) (T := TX6) (Nf := 60) (ci := 6) (id := 0) (k := 46) (v := .ref (ad 29)) nX6_hasCloud_X6 (by decide) (ceM_0 ad cy _ _ _) rfl (by decide) rfl hX6_hasCloud_104 dX6_hasCloud_10 ?_
      refine q_iload C dX6_hasCloud_13 4 rfl ?_
      refine q_zald C (id := 29) (by decide) (ceM_29 ad cy _ _ _) dX6_hasCloud_15 h (fun h => ?_)
      refine q_join (G := fun (y43 : Unit) => qVi ceM 42 ad cy X A D p l e (headSpec wsX6_hasCloud rmX6_hasCloud).room s m args below meth c 5 r0 σ0 43 [(0, .ref (ad 0)), (1, .int a1), (2, .int a2), (3, .int a3), (4, .int v4)] [] σ) h (fun y43 h => ?_) (fun j43 hj43 h => ?_)
      · refine q_iincL C dX6_hasCloud_43 4 rfl (by decide) (nv := 1) (by decide) h (lw := fun x43 => [(0, .ref (ad 0)), (1, .int a1), (2, .int a2), (3, .int a3), (4, .int x43)]) (fun _ => rfl) (fun x43 h => ?_)
        refine q_goto C (tgt := 3) dX6_hasCloud_46 (by decide) ?_
        exact q_sub [0, 1, 2, 3, 4] rfl (ih x43 σ h)
      refine q_if_eq C (tgt := 43) dX6_hasCloud_16 (by decide) h (fun h => ?_) (fun h => ?_)
      · exact q_sub [0, 1, 2, 3, 4] rfl (hj43 () h)
      · refine q_aload_n C dX6_hasCloud_19 rfl 0 rfl ?_
        refine q_get C (Cn := RX6) (T := TX6) (Nf := 60) (ci := 6) (id := 0) (k := 47) (v := .ref (ad 30)) nX6_hasCloud_X6 (by decide) (ceM_0 ad cy _ _ _) rfl (by decide) rfl hX6_hasCloud_107 dX6_hasCloud_20 ?_
        refine q_iload C dX6_hasCloud_23 4 rfl ?_
        refine q_iald C (id := 30) (by decide) (ceM_30 ad cy _ _ _) dX6_hasCloud_25 h (fun h => ?_)
        refine q_iload_n C dX6_hasCloud_26 rfl 1 rfl ?_
        refine q_icmp_ne C (tgt := 43) dX6_hasCloud_27 (by decide) h (fun h => ?_) (fun h => ?_)
        · exact q_sub [0, 1, 2, 3, 4] rfl (hj43 () h)
        · refine q_aload_n C dX6_hasCloud_30 rfl 0 rfl ?_
          refine q_get C (Cn := RX6) (T := TX6) (Nf := 60) (ci := 6) (id := 0) (k := 48) (v := .ref (ad 31)) nX6_hasCloud_X6 (by decide) (ceM_0 ad cy _ _ _) rfl (by decide) rfl hX6_hasCloud_110 dX6_hasCloud_31 ?_
          refine q_iload C dX6_hasCloud_34 4 rfl ?_
          refine q_iald C (id := 31) (by decide) (ceM_31 ad cy _ _ _) dX6_hasCloud_36 h (fun h => ?_)
          refine q_iload_n C dX6_hasCloud_37 rfl 2 rfl ?_
          refine q_icmp_ne C (tgt := 43) dX6_hasCloud_38 (by decide) h (fun h => ?_) (fun h => ?_)
          · exact q_sub [0, 1, 2, 3, 4] rfl (hj43 () h)
          · refine q_iconst C (v := 1) dX6_hasCloud_41 (by decide) ?_
            exact q_zret C rfl dX6_hasCloud_42 h
set_option maxHeartbeats 4000000 in
set_option maxRecDepth 100000 in
theorem kX6_hasCloud (l : Launch) (D : va_G) (ad : Nat → Nat) (cy : Nat → ClassId) (X : va_W) (A : Nat → Prop) (zs : Nat × Nat × Option Nat) (σ : St) (a1 : Int32) (a2 : Int32) (a3 : Int32) (r0 : Int32) (σ0 : St) (h : fX6_hasCloud σ a1 a2 a3 = some (r0, σ0)) : Met l yX6_hasCloud wsX6_hasCloud rmX6_hasCloud (qPc ceM 42 ad cy X A D zs [.ref (ad 0), .int a1, .int a2, .int a3] σ) (qQi ceM 42 ad cy X A D r0 σ0) 0 0 A := by
  refine Met.ofW (cc := cX6_hasCloud) (maxL := 5) (ret := (some .boolean)) (by decide) rfl ?_
  intro p e s m args below meth c s₁ B hml hv
  obtain ⟨ha, hP, hK, hE, hD⟩ := hv
  have C : qC ceM 42 ad cy X A D zs cX6_hasCloud 5 RX6 wsX6_hasCloud p s m args meth c (some .boolean) := ⟨B.exec, B.bytes, hml, findClass_of_methodNamed B.named, atoms_spec (ws := wsX6_hasCloud) B.pre, hK, hD, B.returns, B.notSynchronized, hE⟩
  rw [show entryFrame m args 5 = entryFrame m ([.ref (ad 0), .int a1, .int a2, .int a3] : List Value).toArray 5 by rw [ha]]
  refine q_entry (A := A) (Nat.le_of_ble_eq_true rfl) hP (lv := [(0, .ref (ad 0)), (1, .int a1), (2, .int a2), (3, .int a3)]) rfl ?_
  unfold fX6_hasCloud at h
  refine q_iconst C (v := 0) dX6_hasCloud_0 (by decide) ?_
  refine q_istore C dX6_hasCloud_1 (by decide) (lv' := [(0, .ref (ad 0)), (1, .int a1), (2, .int a2), (3, .int a3), (4, .int (0 : Int32))]) rfl ?_
  exact q_sub [0, 1, 2, 3, 4] rfl ((kX6_hasCloud_L C r0 σ0 100000) (0 : Int32) σ h)
abbrev rmX6_verdictOf : Room := { frames := 2, cells := 0, slots := 0, locals := 48 }
theorem hyX6_verdictOf : yX6_verdictOf.cls = RX6 ∧ yX6_verdictOf.cls ≠ "java/lang/invoke/MethodHandle" ∧ yX6_verdictOf.cls ≠ "java/lang/invoke/VarHandle" ∧ (parseMethodDescriptor yX6_verdictOf.desc).map (fun d => d.parameters.length) = some 2 := by decide +kernel
theorem nX6_verdictOf_X6 : ∀ w ∈ u_ws RX6 TX6 60, w ∈ wsX6_verdictOf := by decide +kernel
theorem hX6_verdictOf_101 : Cond.fieldLink RX6 101 (TX6 44).1 (TX6 44).2.1 (TX6 44).2.2.1 ∈ wsX6_verdictOf := by decide +kernel
theorem hX6_verdictOf_107 : Cond.fieldLink RX6 107 (TX6 47).1 (TX6 47).2.1 (TX6 47).2.2.1 ∈ wsX6_verdictOf := by decide +kernel
theorem hX6_verdictOf_110 : Cond.fieldLink RX6 110 (TX6 48).1 (TX6 48).2.1 (TX6 48).2.2.1 ∈ wsX6_verdictOf := by decide +kernel
def fX6_verdictOf (σ : St) (a1 : Int32) (a2 : Int32) : Option (Int32 × St) := qix a1 300 (qix (σ.1 30 a1.toNatClampNeg) 12 (qlet (σ.1 28 (σ.1 30 a1.toNatClampNeg).toNatClampNeg) (fun x11 => qix a1 300 (qcall (fX6_lightOf σ x11 (σ.1 31 a1.toNatClampNeg)) (fun r20 σ20 => if r20 = (0 : Int32) then (some ((0 : Int32), σ20)) else (qlet (fun (y58 : Int32 × St) => (some (y58.1, y58.2))) (fun j58 => (qlet (fun (y57 : St) => (j58 ((1 : Int32), y57))) (fun j57 => (if r20 = (2 : Int32) then (qix a1 300 (qcall (fX6_hasCloud σ20 x11 (σ20.1 31 a1.toNatClampNeg) a2) (fun r47 σ47 => if r47 = (0 : Int32) then (j58 ((2 : Int32), σ47)) else (j57 σ47)))) else (j57 σ20)))))))))))
set_option maxHeartbeats 4000000 in
set_option maxRecDepth 100000 in
theorem kX6_verdictOf (l : Launch) (D : va_G) (ad : Nat → Nat) (cy : Nat → ClassId) (X : va_W) (A : Nat → Prop) (zs : Nat × Nat × Option Nat) (σ : St) (a1 : Int32) (a2 : Int32) (r0 : Int32) (σ0 : St) (h : fX6_verdictOf σ a1 a2 = some (r0, σ0)) : Met l yX6_verdictOf wsX6_verdictOf rmX6_verdictOf (qPc ceM 42 ad cy X A D zs [.ref (ad 0), .int a1, .int a2] σ) (qQi ceM 42 ad cy X A D r0 σ0) 0 0 A := by
  refine Met.ofW (cc := cX6_verdictOf) (maxL := 5) (ret := (some .int)) (by decide) rfl ?_
  intro p e s m args below meth c s₁ B hml hv
  obtain ⟨ha, hP, hK, hE, hD⟩ := hv
  have C : qC ceM 42 ad cy X A D zs cX6_verdictOf 5 RX6 wsX6_verdictOf p s m args meth c (some .int) := ⟨B.exec, B.bytes, hml, findClass_of_methodNamed B.named, atoms_spec (ws := wsX6_verdictOf) B.pre, hK, hD, B.returns, B.notSynchronized, hE⟩
  rw [show entryFrame m args 5 = entryFrame m ([.ref (ad 0), .int a1, .int a2] : List Value).toArray 5 by rw [ha]]
  refine q_entry (A := A) (Nat.le_of_ble_eq_true rfl) hP (lv := [(0, .ref (ad 0)), (1, .int a1), (2, .int a2)]) rfl ?_
  unfold fX6_verdictOf at h
  refine q_aload_n C dX6_verdictOf_0 rfl 0 rfl ?_
  refine q_get C (Cn := RX6) (T := TX6) (Nf := 60) (ci := 6) (id := 0) (k := 44) (v := .ref (ad 28)) nX6_verdictOf_X6 (by decide) (ceM_0 ad cy _ _ _) rfl (by decide) rfl hX6_verdictOf_101 dX6_verdictOf_1 ?_
  refine q_aload_n C dX6_verdictOf_4 rfl 0 rfl ?_
  refine q_get C (Cn := RX6) (T := TX6) (Nf := 60) (ci := 6) (id := 0) (k := 47) (v := .ref (ad 30)) nX6_verdictOf_X6 (by decide) (ceM_0 ad cy _ _ _) rfl (by decide) rfl hX6_verdictOf_107 dX6_verdictOf_5 ?_
  refine q_iload_n C dX6_verdictOf_8 rfl 1 rfl ?_
  refine q_iald C (id := 30) (by decide) (ceM_30 ad cy _ _ _) dX6_verdictOf_9 h (fun h => ?_)
  refine q_iald C (id := 28) (by decide) (ceM_28 ad cy _ _ _) dX6_verdictOf_10 h (fun h => ?_)
  refine q_istore_nL C dX6_verdictOf_11 rfl (by decide) h (lw := fun x11 => [(0, .ref (ad 0)), (1, .int a1), (2, .int a2), (3, .int x11)]) (fun _ => rfl) (fun x11 h => ?_)
  refine q_aload_n C dX6_verdictOf_12 rfl 0 rfl ?_
  refine q_iload_n C dX6_verdictOf_13 rfl 3 rfl ?_
  refine q_aload_n C dX6_verdictOf_14 rfl 0 rfl ?_
  refine q_get C (Cn := RX6) (T := TX6) (Nf := 60) (ci := 6) (id := 0) (k := 48) (v := .ref (ad 31)) nX6_verdictOf_X6 (by decide) (ceM_0 ad cy _ _ _) rfl (by decide) rfl hX6_verdictOf_110 dX6_verdictOf_15 ?_
  refine q_iload_n C dX6_verdictOf_18 rfl 1 rfl ?_
  refine q_iald C (id := 31) (by decide) (ceM_31 ad cy _ _ _) dX6_verdictOf_19 h (fun h => ?_)
  refine q_callVi C (rm := rmX6_lightOf) (As := [.int x11, .int (σ.1 31 a1.toNatClampNeg)]) (rest := []) (id := 0) (ci := 6) (fun r9 σ9 h9 => kX6_lightOf l D ad cy X A zs σ x11 (σ.1 31 a1.toNatClampNeg) r9 σ9 h9) gX6_verdictOf_X6_lightOf rfl rfl rfl hyX6_lightOf ⟨Nat.le_of_ble_eq_true rfl, Nat.le_of_ble_eq_true rfl⟩ (by decide) (ceM_0 ad cy _ _ _) rfl rfl rfl (Nat.le_of_ble_eq_true rfl) dX6_verdictOf_20 ⟨Nat.zero_le _, Nat.zero_le _⟩ h (fun r20 σ20 h => ?_)
  refine q_istore C dX6_verdictOf_23 (by decide) (lv' := [(0, .ref (ad 0)), (1, .int a1), (2, .int a2), (3, .int x11), (4, .int r20)]) rfl ?_
  refine q_iload C dX6_verdictOf_25 4 rfl ?_
  refine q_if_ne C (tgt := 32) dX6_verdictOf_27 (by decide) h (fun h => ?_) (fun h => ?_)
  · refine q_iload C dX6_verdictOf_32 4 rfl ?_
    refine q_iconst C (v := 2) dX6_verdictOf_34 (by decide) ?_
    refine q_join (G := fun (y58 : Int32 × St) => qVi ceM 42 ad cy X A D p l e (headSpec wsX6_verdictOf rmX6_verdictOf).room s m args below meth c 5 r0 σ0 58 [] [.int y58.1] y58.2) h (fun y58 h => ?_) (fun j58 hj58 h => ?_)
    · exact q_iret C rfl dX6_verdictOf_58 h
    refine q_join (G := fun (y57 : St) => qVi ceM 42 ad cy X A D p l e (headSpec wsX6_verdictOf rmX6_verdictOf).room s m args below meth c 5 r0 σ0 57 [] [] y57) h (fun y57 h => ?_) (fun j57 hj57 h => ?_)
    · refine q_iconst C (v := 1) dX6_verdictOf_57 (by decide) ?_
      exact q_sub [] rfl (hj58 ((1 : Int32), y57) h)
    refine q_icmp_ne C (tgt := 57) dX6_verdictOf_35 (by decide) h (fun h => ?_) (fun h => ?_)
    · exact q_sub [] rfl (hj57 σ20 h)
    · refine q_aload_n C dX6_verdictOf_38 rfl 0 rfl ?_
      refine q_iload_n C dX6_verdictOf_39 rfl 3 rfl ?_
      refine q_aload_n C dX6_verdictOf_40 rfl 0 rfl ?_
      refine q_get C (Cn := RX6) (T := TX6) (Nf := 60) (ci := 6) (id := 0) (k := 48) (v := .ref (ad 31)) nX6_verdictOf_X6 (by decide) (ceM_0 ad cy _ _ _) rfl (by decide) rfl hX6_verdictOf_110 dX6_verdictOf_41 ?_
      refine q_iload_n C dX6_verdictOf_44 rfl 1 rfl ?_
      refine q_iald C (id := 31) (by decide) (ceM_31 ad cy _ _ _) dX6_verdictOf_45 h (fun h => ?_)
      refine q_iload_n C dX6_verdictOf_46 rfl 2 rfl ?_
      refine q_callVi C (rm := rmX6_hasCloud) (As := [.int x11, .int (σ20.1 31 a1.toNatClampNeg), .int a2]) (rest := []) (id := 0) (ci := 6) (fun r9 σ9 h9 => kX6_hasCloud l D ad cy X A zs σ20 x11 (σ20.1 31 a1.toNatClampNeg) a2 r9 σ9 h9) gX6_verdictOf_X6_hasCloud rfl rfl rfl hyX6_hasCloud ⟨Nat.le_of_ble_eq_true rfl, Nat.le_of_ble_eq_true rfl⟩ (by decide) (ceM_0 ad cy _ _ _) rfl rfl rfl (Nat.le_of_ble_eq_true rfl) dX6_verdictOf_47 ⟨Nat.zero_le _, Nat.zero_le _⟩ h (fun r47 σ47 h => ?_)
      refine q_if_ne C (tgt := 57) dX6_verdictOf_50 (by decide) h (fun h => ?_) (fun h => ?_)
      · exact q_sub [] rfl (hj57 σ47 h)
      · refine q_iconst C (v := 2) dX6_verdictOf_53 (by decide) ?_
        refine q_goto C (tgt := 58) dX6_verdictOf_54 (by decide) ?_
        exact q_sub [] rfl (hj58 ((2 : Int32), σ47) h)
  · refine q_iconst C (v := 0) dX6_verdictOf_30 (by decide) ?_
    exact q_iret C rfl dX6_verdictOf_31 h
abbrev rmX6_verdict : Room := { frames := 3, cells := 0, slots := 0, locals := 72 }
theorem hyX6_verdict : yX6_verdict.cls = RX6 ∧ yX6_verdict.cls ≠ "java/lang/invoke/MethodHandle" ∧ yX6_verdict.cls ≠ "java/lang/invoke/VarHandle" ∧ (parseMethodDescriptor yX6_verdict.desc).map (fun d => d.parameters.length) = some 2 := by decide +kernel
theorem nX6_verdict_X6 : ∀ w ∈ u_ws RX6 TX6 60, w ∈ wsX6_verdict := fun w h => List.mem_cons_of_mem _ (List.mem_append_right _ h)
theorem hX6_verdict_104 : Cond.fieldLink RX6 104 (TX6 46).1 (TX6 46).2.1 (TX6 46).2.2.1 ∈ wsX6_verdict := by decide +kernel
def fX6_verdict (σ : St) (a1 : Int32) (a2 : Int32) : Option (Int32 × St) := qcall (fX6_isKnown σ a2) (fun r2 σ2 => qlet (fun (y36 : Int32 × St) => (some (y36.1, y36.2))) (fun j36 => (qlet (fun (y26 : Unit) => (j36 ((-1 : Int32), σ2))) (fun j26 => (if r2 = (0 : Int32) then (j26 ()) else (if a1 < (0 : Int32) then (j26 ()) else (if a2 ≤ a1 then (j26 ()) else (qix a1 300 (if (σ2.1 29 a1.toNatClampNeg) = (0 : Int32) then (qcall (fX6_verdictOf σ2 a1 a2) (fun r33 σ33 => j36 (r33, σ33))) else (j26 ()))))))))))
set_option maxHeartbeats 4000000 in
set_option maxRecDepth 100000 in
theorem kX6_verdict (l : Launch) (D : va_G) (ad : Nat → Nat) (cy : Nat → ClassId) (X : va_W) (A : Nat → Prop) (zs : Nat × Nat × Option Nat) (σ : St) (a1 : Int32) (a2 : Int32) (r0 : Int32) (σ0 : St) (h : fX6_verdict σ a1 a2 = some (r0, σ0)) : Met l yX6_verdict wsX6_verdict rmX6_verdict (qPc ceM 42 ad cy X A D zs [.ref (ad 0), .int a1, .int a2] σ) (qQi ceM 42 ad cy X A D r0 σ0) 0 0 A := by
  refine Met.ofW (cc := cX6_verdict) (maxL := 3) (ret := (some .int)) (by decide) rfl ?_
  intro p e s m args below meth c s₁ B hml hv
  obtain ⟨ha, hP, hK, hE, hD⟩ := hv
  have C : qC ceM 42 ad cy X A D zs cX6_verdict 3 RX6 wsX6_verdict p s m args meth c (some .int) := ⟨B.exec, B.bytes, hml, findClass_of_methodNamed B.named, atoms_spec (ws := wsX6_verdict) B.pre, hK, hD, B.returns, B.notSynchronized, hE⟩
  rw [show entryFrame m args 3 = entryFrame m ([.ref (ad 0), .int a1, .int a2] : List Value).toArray 3 by rw [ha]]
  refine q_entry (A := A) (Nat.le_of_ble_eq_true rfl) hP (lv := [(0, .ref (ad 0)), (1, .int a1), (2, .int a2)]) rfl ?_
  unfold fX6_verdict at h
  refine q_aload_n C dX6_verdict_0 rfl 0 rfl ?_
  refine q_iload_n C dX6_verdict_1 rfl 2 rfl ?_
  refine q_callVi C (rm := rmX6_isKnown) (As := [.int a2]) (rest := []) (id := 0) (ci := 6) (fun r9 σ9 h9 => kX6_isKnown l D ad cy X A zs σ a2 r9 σ9 h9) gX6_verdict_X6_isKnown rfl rfl rfl hyX6_isKnown ⟨Nat.le_of_ble_eq_true rfl, Nat.le_of_ble_eq_true rfl⟩ (by decide) (ceM_0 ad cy _ _ _) rfl rfl rfl (Nat.le_of_ble_eq_true rfl) dX6_verdict_2 ⟨Nat.zero_le _, Nat.zero_le _⟩ h (fun r2 σ2 h => ?_)
  refine q_join (G := fun (y36 : Int32 × St) => qVi ceM 42 ad cy X A D p l e (headSpec wsX6_verdict rmX6_verdict).room s m args below meth c 3 r0 σ0 36 [] [.int y36.1] y36.2) h (fun y36 h => ?_) (fun j36 hj36 h => ?_)
  · exact q_iret C rfl dX6_verdict_36 h
  refine q_join (G := fun (y26 : Unit) => qVi ceM 42 ad cy X A D p l e (headSpec wsX6_verdict rmX6_verdict).room s m args below meth c 3 r0 σ0 26 [] [] σ2) h (fun y26 h => ?_) (fun j26 hj26 h => ?_)
  · refine q_iconst C (v := -1) dX6_verdict_26 (by decide) ?_
    refine q_goto C (tgt := 36) dX6_verdict_27 (by decide) ?_
    exact q_sub [] rfl (hj36 ((-1 : Int32), σ2) h)
  refine q_if_eq C (tgt := 26) dX6_verdict_5 (by decide) h (fun h => ?_) (fun h => ?_)
  · exact q_sub [] rfl (hj26 () h)
  · refine q_iload_n C dX6_verdict_8 rfl 1 rfl ?_
    refine q_if_lt C (tgt := 26) dX6_verdict_9 (by decide) h (fun h => ?_) (fun h => ?_)
    · exact q_sub [] rfl (hj26 () h)
    · refine q_iload_n C dX6_verdict_12 rfl 1 rfl ?_
      refine q_iload_n C dX6_verdict_13 rfl 2 rfl ?_
      refine q_icmp_ge C (tgt := 26) dX6_verdict_14 (by decide) h (fun h => ?_) (fun h => ?_)
      · exact q_sub [] rfl (hj26 () h)
      · refine q_aload_n C dX6_verdict_17 rfl 0 rfl ?_
        refine q_get C (Cn := RX6) (T := TX6) (Nf := 60) (ci := 6) (id := 0) (k := 46) (v := .ref (ad 29)) nX6_verdict_X6 (by decide) (ceM_0 ad cy _ _ _) rfl (by decide) rfl hX6_verdict_104 dX6_verdict_18 ?_
        refine q_iload_n C dX6_verdict_21 rfl 1 rfl ?_
        refine q_zald C (id := 29) (by decide) (ceM_29 ad cy _ _ _) dX6_verdict_22 h (fun h => ?_)
        refine q_if_eq C (tgt := 30) dX6_verdict_23 (by decide) h (fun h => ?_) (fun h => ?_)
        · refine q_aload_n C dX6_verdict_30 rfl 0 rfl ?_
          refine q_iload_n C dX6_verdict_31 rfl 1 rfl ?_
          refine q_iload_n C dX6_verdict_32 rfl 2 rfl ?_
          refine q_callVi C (rm := rmX6_verdictOf) (As := [.int a1, .int a2]) (rest := []) (id := 0) (ci := 6) (fun r9 σ9 h9 => kX6_verdictOf l D ad cy X A zs σ2 a1 a2 r9 σ9 h9) gX6_verdict_X6_verdictOf rfl rfl rfl hyX6_verdictOf ⟨Nat.le_of_ble_eq_true rfl, Nat.le_of_ble_eq_true rfl⟩ (by decide) (ceM_0 ad cy _ _ _) rfl rfl rfl (Nat.le_of_ble_eq_true rfl) dX6_verdict_33 ⟨Nat.zero_le _, Nat.zero_le _⟩ h (fun r33 σ33 h => ?_)
          exact q_sub [] rfl (hj36 (r33, σ33) h)
        · exact q_sub [] rfl (hj26 () h)
abbrev rmX6_worthOf : Room := { frames := 3, cells := 0, slots := 0, locals := 72 }
theorem hyX6_worthOf : yX6_worthOf.cls = RX6 ∧ yX6_worthOf.cls ≠ "java/lang/invoke/MethodHandle" ∧ yX6_worthOf.cls ≠ "java/lang/invoke/VarHandle" ∧ (parseMethodDescriptor yX6_worthOf.desc).map (fun d => d.parameters.length) = some 3 := by decide +kernel
theorem nX6_worthOf_X6 : ∀ w ∈ u_ws RX6 TX6 60, w ∈ wsX6_worthOf := fun w h => List.mem_cons_of_mem _ (List.mem_append_right _ h)
theorem hX6_worthOf_104 : Cond.fieldLink RX6 104 (TX6 46).1 (TX6 46).2.1 (TX6 46).2.2.1 ∈ wsX6_worthOf := by decide +kernel
theorem hX6_worthOf_107 : Cond.fieldLink RX6 107 (TX6 47).1 (TX6 47).2.1 (TX6 47).2.2.1 ∈ wsX6_worthOf := by decide +kernel
theorem hX6_worthOf_110 : Cond.fieldLink RX6 110 (TX6 48).1 (TX6 48).2.1 (TX6 48).2.2.1 ∈ wsX6_worthOf := by decide +kernel
def fX6_worthOf_L (a1 : Int32) (a2 : Int32) (a3 : Int32) : Nat → Int32 → Int32 → St → Option (Int32 × St)
  | 0, _, _, _ => none
  | n + 1, v4, v5, σ => if a3 ≤ v5 then (qlet (fun (y99 : Int32) => (some (y99, σ))) (fun j99 => (if (0 : Int32) ≤ v4 then (j99 v4) else (j99 (0 : Int32))))) else (qix v5 300 (qlet (fun (y82 : Int32 × St) => (qlet (v5 + (1 : Int32)) (fun x82 => fX6_worthOf_L a1 a2 a3 n y82.1 x82 y82.2))) (fun j82 => (if (σ.1 29 v5.toNatClampNeg) = (0 : Int32) then (qix v5 300 (if (σ.1 30 v5.toNatClampNeg) = a1 then (qix v5 300 (if (σ.1 31 v5.toNatClampNeg) < a2 then (qcall (fX6_verdictOf σ v5 a3) (fun r51 σ51 => qlet (fun (y79 : Int32) => (qlet (v4 + y79) (fun x80 => j82 (x80, σ51)))) (fun j79 => (if r51 = (2 : Int32) then (j79 (1 : Int32)) else (if r51 = (0 : Int32) then (j79 (-2 : Int32)) else (j79 (0 : Int32))))))) else (j82 (v4, σ)))) else (j82 (v4, σ)))) else (j82 (v4, σ))))))
def fX6_worthOf (σ : St) (a1 : Int32) (a2 : Int32) (a3 : Int32) : Option (Int32 × St) := fX6_worthOf_L a1 a2 a3 100000 (2 : Int32) (0 : Int32) σ
set_option maxHeartbeats 4000000 in
set_option maxRecDepth 100000 in
theorem kX6_worthOf_L {ad : Nat → Nat} {cy : Nat → ClassId} {X : va_W} {A : Nat → Prop} {D : va_G} {zs : Nat × Nat × Option Nat} {p : Program} {l : Launch} {e : Env} {s : State} {m : MethodId} {args : Array Value} {below : List Frame} {meth : Method} {c : Code} {a1 : Int32} {a2 : Int32} {a3 : Int32} (C : qC ceM 42 ad cy X A D zs cX6_worthOf 7 RX6 wsX6_worthOf p s m args meth c (some .int)) (r0 : Int32) (σ0 : St) (n : Nat) : (∀ (v4 : Int32) (v5 : Int32) (σ : St), fX6_worthOf_L a1 a2 a3 n v4 v5 σ = some (r0, σ0) → qVi ceM 42 ad cy X A D p l e (headSpec wsX6_worthOf rmX6_worthOf).room s m args below meth c 7 r0 σ0 6 [(0, .ref (ad 0)), (1, .int a1), (2, .int a2), (3, .int a3), (4, .int v4), (5, .int v5)] [] σ) := by
  induction n with
  | zero =>
    intro v4 v5 σ h; cases h
  | succ n ih =>
    intro v4 v5 σ h
    rw [fX6_worthOf_L] at h
    refine q_iload C dX6_worthOf_6 5 rfl ?_
    refine q_iload_n C dX6_worthOf_8 rfl 3 rfl ?_
    refine q_icmp_ge C (tgt := 88) dX6_worthOf_9 (by decide) h (fun h => ?_) (fun h => ?_)
    · refine q_iload C dX6_worthOf_88 4 rfl ?_
      refine q_join (G := fun (y99 : Int32) => qVi ceM 42 ad cy X A D p l e (headSpec wsX6_worthOf rmX6_worthOf).room s m args below meth c 7 r0 σ0 99 [] [.int y99] σ) h (fun y99 h => ?_) (fun j99 hj99 h => ?_)
      · exact q_iret C rfl dX6_worthOf_99 h
      refine q_if_ge C (tgt := 97) dX6_worthOf_90 (by decide) h (fun h => ?_) (fun h => ?_)
      · refine q_iload C dX6_worthOf_97 4 rfl ?_
        exact q_sub [] rfl (hj99 v4 h)
      · refine q_iconst C (v := 0) dX6_worthOf_93 (by decide) ?_
        refine q_goto C (tgt := 99) dX6_worthOf_94 (by decide) ?_
        exact q_sub [] rfl (hj99 (0 : Int32) h)
    · refine q_aload_n C dX6_worthOf_12 rfl 0 rfl ?_
      refine q_get C (Cn := RX6) (T := TX6) (Nf := 60) (ci := 6) (id := 0) (k := 46) (v := .ref (ad 29)) nX6_worthOf_X6 (by decide) (ceM_0 ad cy _ _ _) rfl (by decide) rfl hX6_worthOf_104 dX6_worthOf_13 ?_
      refine q_iload C dX6_worthOf_16 5 rfl ?_
      refine q_zald C (id := 29) (by decide) (ceM_29 ad cy _ _ _) dX6_worthOf_18 h (fun h => ?_)
      refine q_join (G := fun (y82 : Int32 × St) => qVi ceM 42 ad cy X A D p l e (headSpec wsX6_worthOf rmX6_worthOf).room s m args below meth c 7 r0 σ0 82 [(0, .ref (ad 0)), (1, .int a1), (2, .int a2), (3, .int a3), (4, .int y82.1), (5, .int v5)] [] y82.2) h (fun y82 h => ?_) (fun j82 hj82 h => ?_)
      · refine q_iincL C dX6_worthOf_82 5 rfl (by decide) (nv := 1) (by decide) h (lw := fun x82 => [(0, .ref (ad 0)), (1, .int a1), (2, .int a2), (3, .int a3), (4, .int y82.1), (5, .int x82)]) (fun _ => rfl) (fun x82 h => ?_)
        refine q_goto C (tgt := 6) dX6_worthOf_85 (by decide) ?_
        exact q_sub [0, 1, 2, 3, 4, 5] rfl (ih y82.1 x82 y82.2 h)
      refine q_if_ne C (tgt := 82) dX6_worthOf_19 (by decide) h (fun h => ?_) (fun h => ?_)
      · exact q_sub [0, 1, 2, 3, 4, 5] rfl (hj82 (v4, σ) h)
      · refine q_aload_n C dX6_worthOf_22 rfl 0 rfl ?_
        refine q_get C (Cn := RX6) (T := TX6) (Nf := 60) (ci := 6) (id := 0) (k := 47) (v := .ref (ad 30)) nX6_worthOf_X6 (by decide) (ceM_0 ad cy _ _ _) rfl (by decide) rfl hX6_worthOf_107 dX6_worthOf_23 ?_
        refine q_iload C dX6_worthOf_26 5 rfl ?_
        refine q_iald C (id := 30) (by decide) (ceM_30 ad cy _ _ _) dX6_worthOf_28 h (fun h => ?_)
        refine q_iload_n C dX6_worthOf_29 rfl 1 rfl ?_
        refine q_icmp_ne C (tgt := 82) dX6_worthOf_30 (by decide) h (fun h => ?_) (fun h => ?_)
        · exact q_sub [0, 1, 2, 3, 4, 5] rfl (hj82 (v4, σ) h)
        · refine q_aload_n C dX6_worthOf_33 rfl 0 rfl ?_
          refine q_get C (Cn := RX6) (T := TX6) (Nf := 60) (ci := 6) (id := 0) (k := 48) (v := .ref (ad 31)) nX6_worthOf_X6 (by decide) (ceM_0 ad cy _ _ _) rfl (by decide) rfl hX6_worthOf_110 dX6_worthOf_34 ?_
          refine q_iload C dX6_worthOf_37 5 rfl ?_
          refine q_iald C (id := 31) (by decide) (ceM_31 ad cy _ _ _) dX6_worthOf_39 h (fun h => ?_)
          refine q_iload_n C dX6_worthOf_40 rfl 2 rfl ?_
          refine q_icmp_lt C (tgt := 47) dX6_worthOf_41 (by decide) h (fun h => ?_) (fun h => ?_)
          · refine q_aload_n C dX6_worthOf_47 rfl 0 rfl ?_
            refine q_iload C dX6_worthOf_48 5 rfl ?_
            refine q_iload_n C dX6_worthOf_50 rfl 3 rfl ?_
            refine q_callVi C (rm := rmX6_verdictOf) (As := [.int v5, .int a3]) (rest := []) (id := 0) (ci := 6) (fun r9 σ9 h9 => kX6_verdictOf l D ad cy X A zs σ v5 a3 r9 σ9 h9) gX6_worthOf_X6_verdictOf rfl rfl rfl hyX6_verdictOf ⟨Nat.le_of_ble_eq_true rfl, Nat.le_of_ble_eq_true rfl⟩ (by decide) (ceM_0 ad cy _ _ _) rfl rfl rfl (Nat.le_of_ble_eq_true rfl) dX6_worthOf_51 ⟨Nat.zero_le _, Nat.zero_le _⟩ h (fun r51 σ51 h => ?_)
            refine q_istore C dX6_worthOf_54 (by decide) (lv' := [(0, .ref (ad 0)), (1, .int a1), (2, .int a2), (3, .int a3), (4, .int v4), (5, .int v5), (6, .int r51)]) rfl ?_
            refine q_iload C dX6_worthOf_56 4 rfl ?_
            refine q_iload C dX6_worthOf_58 6 rfl ?_
            refine q_iconst C (v := 2) dX6_worthOf_60 (by decide) ?_
            refine q_join (G := fun (y79 : Int32) => qVi ceM 42 ad cy X A D p l e (headSpec wsX6_worthOf rmX6_worthOf).room s m args below meth c 7 r0 σ0 79 [(0, .ref (ad 0)), (1, .int a1), (2, .int a2), (3, .int a3), (5, .int v5)] [.int y79, .int v4] σ51) h (fun y79 h => ?_) (fun j79 hj79 h => ?_)
            · refine q_iadd C dX6_worthOf_79 ?_
              refine q_istoreL C dX6_worthOf_80 (by decide) h (lw := fun x80 => [(0, .ref (ad 0)), (1, .int a1), (2, .int a2), (3, .int a3), (4, .int x80), (5, .int v5)]) (fun _ => rfl) (fun x80 h => ?_)
              exact q_sub [0, 1, 2, 3, 4, 5] rfl (hj82 (x80, σ51) h)
            refine q_icmp_ne C (tgt := 68) dX6_worthOf_61 (by decide) h (fun h => ?_) (fun h => ?_)
            · refine q_iload C dX6_worthOf_68 6 rfl ?_
              refine q_if_ne C (tgt := 78) dX6_worthOf_70 (by decide) h (fun h => ?_) (fun h => ?_)
              · refine q_iconst C (v := 0) dX6_worthOf_78 (by decide) ?_
                exact q_sub [0, 1, 2, 3, 5] rfl (hj79 (0 : Int32) h)
              · refine q_bipush C (v := -2) dX6_worthOf_73 (by decide) ?_
                refine q_goto C (tgt := 79) dX6_worthOf_75 (by decide) ?_
                exact q_sub [0, 1, 2, 3, 5] rfl (hj79 (-2 : Int32) h)
            · refine q_iconst C (v := 1) dX6_worthOf_64 (by decide) ?_
              refine q_goto C (tgt := 79) dX6_worthOf_65 (by decide) ?_
              exact q_sub [0, 1, 2, 3, 5] rfl (hj79 (1 : Int32) h)
          · refine q_goto C (tgt := 82) dX6_worthOf_44 (by decide) ?_
            exact q_sub [0, 1, 2, 3, 4, 5] rfl (hj82 (v4, σ) h)
set_option maxHeartbeats 4000000 in
set_option maxRecDepth 100000 in
theorem kX6_worthOf (l : Launch) (D : va_G) (ad : Nat → Nat) (cy : Nat → ClassId) (X : va_W) (A : Nat → Prop) (zs : Nat × Nat × Option Nat) (σ : St) (a1 : Int32) (a2 : Int32) (a3 : Int32) (r0 : Int32) (σ0 : St) (h : fX6_worthOf σ a1 a2 a3 = some (r0, σ0)) : Met l yX6_worthOf wsX6_worthOf rmX6_worthOf (qPc ceM 42 ad cy X A D zs [.ref (ad 0), .int a1, .int a2, .int a3] σ) (qQi ceM 42 ad cy X A D r0 σ0) 0 0 A := by
  refine Met.ofW (cc := cX6_worthOf) (maxL := 7) (ret := (some .int)) (by decide) rfl ?_
  intro p e s m args below meth c s₁ B hml hv
  obtain ⟨ha, hP, hK, hE, hD⟩ := hv
  have C : qC ceM 42 ad cy X A D zs cX6_worthOf 7 RX6 wsX6_worthOf p s m args meth c (some .int) := ⟨B.exec, B.bytes, hml, findClass_of_methodNamed B.named, atoms_spec (ws := wsX6_worthOf) B.pre, hK, hD, B.returns, B.notSynchronized, hE⟩
  rw [show entryFrame m args 7 = entryFrame m ([.ref (ad 0), .int a1, .int a2, .int a3] : List Value).toArray 7 by rw [ha]]
  refine q_entry (A := A) (Nat.le_of_ble_eq_true rfl) hP (lv := [(0, .ref (ad 0)), (1, .int a1), (2, .int a2), (3, .int a3)]) rfl ?_
  unfold fX6_worthOf at h
  refine q_iconst C (v := 2) dX6_worthOf_0 (by decide) ?_
  refine q_istore C dX6_worthOf_1 (by decide) (lv' := [(0, .ref (ad 0)), (1, .int a1), (2, .int a2), (3, .int a3), (4, .int (2 : Int32))]) rfl ?_
  refine q_iconst C (v := 0) dX6_worthOf_3 (by decide) ?_
  refine q_istore C dX6_worthOf_4 (by decide) (lv' := [(0, .ref (ad 0)), (1, .int a1), (2, .int a2), (3, .int a3), (4, .int (2 : Int32)), (5, .int (0 : Int32))]) rfl ?_
  exact q_sub [0, 1, 2, 3, 4, 5] rfl ((kX6_worthOf_L C r0 σ0 100000) (2 : Int32) (0 : Int32) σ h)
abbrev rmX6_worth : Room := { frames := 4, cells := 0, slots := 0, locals := 98 }
theorem hyX6_worth : yX6_worth.cls = RX6 ∧ yX6_worth.cls ≠ "java/lang/invoke/MethodHandle" ∧ yX6_worth.cls ≠ "java/lang/invoke/VarHandle" ∧ (parseMethodDescriptor yX6_worth.desc).map (fun d => d.parameters.length) = some 3 := by decide +kernel
def fX6_worth (σ : St) (a1 : Int32) (a2 : Int32) (a3 : Int32) : Option (Int32 × St) := qcall (fX6_isWitness σ a1) (fun r2 σ2 => qlet (fun (y34 : Int32 × St) => (some (y34.1, y34.2))) (fun j34 => (qlet (fun (y33 : St) => (j34 ((-1 : Int32), y33))) (fun j33 => (if r2 = (0 : Int32) then (j33 σ2) else (qcall (fX6_isEvening σ2 a2) (fun r9 σ9 => if r9 = (0 : Int32) then (j33 σ9) else (qcall (fX6_isKnown σ9 a3) (fun r17 σ17 => if r17 = (0 : Int32) then (j33 σ17) else (qcall (fX6_worthOf σ17 a1 a2 a3) (fun r27 σ27 => j34 (r27, σ27))))))))))))
set_option maxHeartbeats 4000000 in
set_option maxRecDepth 100000 in
theorem kX6_worth (l : Launch) (D : va_G) (ad : Nat → Nat) (cy : Nat → ClassId) (X : va_W) (A : Nat → Prop) (zs : Nat × Nat × Option Nat) (σ : St) (a1 : Int32) (a2 : Int32) (a3 : Int32) (r0 : Int32) (σ0 : St) (h : fX6_worth σ a1 a2 a3 = some (r0, σ0)) : Met l yX6_worth wsX6_worth rmX6_worth (qPc ceM 42 ad cy X A D zs [.ref (ad 0), .int a1, .int a2, .int a3] σ) (qQi ceM 42 ad cy X A D r0 σ0) 0 0 A := by
  refine Met.ofW (cc := cX6_worth) (maxL := 4) (ret := (some .int)) (by decide) rfl ?_
  intro p e s m args below meth c s₁ B hml hv
  obtain ⟨ha, hP, hK, hE, hD⟩ := hv
  have C : qC ceM 42 ad cy X A D zs cX6_worth 4 RX6 wsX6_worth p s m args meth c (some .int) := ⟨B.exec, B.bytes, hml, findClass_of_methodNamed B.named, atoms_spec (ws := wsX6_worth) B.pre, hK, hD, B.returns, B.notSynchronized, hE⟩
  rw [show entryFrame m args 4 = entryFrame m ([.ref (ad 0), .int a1, .int a2, .int a3] : List Value).toArray 4 by rw [ha]]
  refine q_entry (A := A) (Nat.le_of_ble_eq_true rfl) hP (lv := [(0, .ref (ad 0)), (1, .int a1), (2, .int a2), (3, .int a3)]) rfl ?_
  unfold fX6_worth at h
  refine q_aload_n C dX6_worth_0 rfl 0 rfl ?_
  refine q_iload_n C dX6_worth_1 rfl 1 rfl ?_
  refine q_callVi C (rm := rmX6_isWitness) (As := [.int a1]) (rest := []) (id := 0) (ci := 6) (fun r9 σ9 h9 => kX6_isWitness l D ad cy X A zs σ a1 r9 σ9 h9) gX6_worth_X6_isWitness rfl rfl rfl hyX6_isWitness ⟨Nat.le_of_ble_eq_true rfl, Nat.le_of_ble_eq_true rfl⟩ (by decide) (ceM_0 ad cy _ _ _) rfl rfl rfl (Nat.le_of_ble_eq_true rfl) dX6_worth_2 ⟨Nat.zero_le _, Nat.zero_le _⟩ h (fun r2 σ2 h => ?_)
  refine q_join (G := fun (y34 : Int32 × St) => qVi ceM 42 ad cy X A D p l e (headSpec wsX6_worth rmX6_worth).room s m args below meth c 4 r0 σ0 34 [] [.int y34.1] y34.2) h (fun y34 h => ?_) (fun j34 hj34 h => ?_)
  · exact q_iret C rfl dX6_worth_34 h
  refine q_join (G := fun (y33 : St) => qVi ceM 42 ad cy X A D p l e (headSpec wsX6_worth rmX6_worth).room s m args below meth c 4 r0 σ0 33 [] [] y33) h (fun y33 h => ?_) (fun j33 hj33 h => ?_)
  · refine q_iconst C (v := -1) dX6_worth_33 (by decide) ?_
    exact q_sub [] rfl (hj34 ((-1 : Int32), y33) h)
  refine q_if_eq C (tgt := 33) dX6_worth_5 (by decide) h (fun h => ?_) (fun h => ?_)
  · exact q_sub [] rfl (hj33 σ2 h)
  · refine q_iload_n C dX6_worth_8 rfl 2 rfl ?_
    refine q_callSi C (rm := rmX6_isEvening) (As := [.int a2]) (rest := []) (fun r9 σ9 h9 => kX6_isEvening l D ad cy X A zs σ2 a2 r9 σ9 h9) gX6_worth_X6_isEvening rfl rfl rfl hyX6_isEvening ⟨Nat.le_of_ble_eq_true rfl, Nat.le_of_ble_eq_true rfl⟩ rfl rfl (Nat.le_of_ble_eq_true rfl) dX6_worth_9 ⟨Nat.zero_le _, Nat.zero_le _⟩ h (fun r9 σ9 h => ?_)
    refine q_if_eq C (tgt := 33) dX6_worth_12 (by decide) h (fun h => ?_) (fun h => ?_)
    · exact q_sub [] rfl (hj33 σ9 h)
    · refine q_aload_n C dX6_worth_15 rfl 0 rfl ?_
      refine q_iload_n C dX6_worth_16 rfl 3 rfl ?_
      refine q_callVi C (rm := rmX6_isKnown) (As := [.int a3]) (rest := []) (id := 0) (ci := 6) (fun rZ σZ hZ => kX6_isKnown l D ad cy X A zs σ9 a3 rZ σZ hZ) gX6_worth_X6_isKnown rfl rfl rfl hyX6_isKnown ⟨Nat.le_of_ble_eq_true rfl, Nat.le_of_ble_eq_true rfl⟩ (by decide) (ceM_0 ad cy _ _ _) rfl rfl rfl (Nat.le_of_ble_eq_true rfl) dX6_worth_17 ⟨Nat.zero_le _, Nat.zero_le _⟩ h (fun r17 σ17 h => ?_)
      refine q_if_eq C (tgt := 33) dX6_worth_20 (by decide) h (fun h => ?_) (fun h => ?_)
      · exact q_sub [] rfl (hj33 σ17 h)
      · refine q_aload_n C dX6_worth_23 rfl 0 rfl ?_
        refine q_iload_n C dX6_worth_24 rfl 1 rfl ?_
        refine q_iload_n C dX6_worth_25 rfl 2 rfl ?_
        refine q_iload_n C dX6_worth_26 rfl 3 rfl ?_
        refine q_callVi C (rm := rmX6_worthOf) (As := [.int a1, .int a2, .int a3]) (rest := []) (id := 0) (ci := 6) (fun r9 σ9 h9 => kX6_worthOf l D ad cy X A zs σ17 a1 a2 a3 r9 σ9 h9) gX6_worth_X6_worthOf rfl rfl rfl hyX6_worthOf ⟨Nat.le_of_ble_eq_true rfl, Nat.le_of_ble_eq_true rfl⟩ (by decide) (ceM_0 ad cy _ _ _) rfl rfl rfl (Nat.le_of_ble_eq_true rfl) dX6_worth_27 ⟨Nat.zero_le _, Nat.zero_le _⟩ h (fun r27 σ27 h => ?_)
        refine q_goto C (tgt := 34) dX6_worth_30 (by decide) ?_
        exact q_sub [] rfl (hj34 (r27, σ27) h)
abbrev rmX6_isHeard : Room := { frames := 3, cells := 0, slots := 0, locals := 72 }
theorem hyX6_isHeard : yX6_isHeard.cls = RX6 ∧ yX6_isHeard.cls ≠ "java/lang/invoke/MethodHandle" ∧ yX6_isHeard.cls ≠ "java/lang/invoke/VarHandle" ∧ (parseMethodDescriptor yX6_isHeard.desc).map (fun d => d.parameters.length) = some 5 := by decide +kernel
theorem nX6_isHeard_X6 : ∀ w ∈ u_ws RX6 TX6 60, w ∈ wsX6_isHeard := fun w h => List.mem_cons_of_mem _ (List.mem_append_right _ h)
theorem hX6_isHeard_104 : Cond.fieldLink RX6 104 (TX6 46).1 (TX6 46).2.1 (TX6 46).2.2.1 ∈ wsX6_isHeard := by decide +kernel
theorem hX6_isHeard_110 : Cond.fieldLink RX6 110 (TX6 48).1 (TX6 48).2.1 (TX6 48).2.2.1 ∈ wsX6_isHeard := by decide +kernel
theorem hX6_isHeard_98 : Cond.fieldLink RX6 98 (TX6 42).1 (TX6 42).2.1 (TX6 42).2.2.1 ∈ wsX6_isHeard := by decide +kernel
theorem hX6_isHeard_101 : Cond.fieldLink RX6 101 (TX6 44).1 (TX6 44).2.1 (TX6 44).2.2.1 ∈ wsX6_isHeard := by decide +kernel
theorem hX6_isHeard_107 : Cond.fieldLink RX6 107 (TX6 47).1 (TX6 47).2.1 (TX6 47).2.2.1 ∈ wsX6_isHeard := by decide +kernel
def fX6_isHeard (σ : St) (a1 : Int32) (a2 : Int32) (a3 : Int32) (a4 : Int32) (a5 : Int32) : Option (Int32 × St) := qix a1 300 (qlet (fun (y20 : Unit) => (qzz (0 : Int32) (some ((0 : Int32), σ)))) (fun j20 => (if (σ.1 29 a1.toNatClampNeg) = (0 : Int32) then (qix a1 300 (if (σ.1 31 a1.toNatClampNeg) = a4 then (qix a1 300 (qix (σ.1 30 a1.toNatClampNeg) 12 (qix (((6 : Int32) * (σ.1 28 (σ.1 30 a1.toNatClampNeg).toNatClampNeg)) + a2) 36 (qlet (σ.1 27 (((6 : Int32) * (σ.1 28 (σ.1 30 a1.toNatClampNeg).toNatClampNeg)) + a2).toNatClampNeg) (fun x43 => qlet (fun (y75 : Int32 × St) => (qzz y75.1 (some (y75.1, y75.2)))) (fun j75 => (qlet (fun (y74 : St) => (j75 ((0 : Int32), y74))) (fun j74 => (if x43 = (-1 : Int32) then (j74 σ) else (if a3 < (a4 + x43) then (j74 σ) else (qcall (fX6_verdictOf σ a1 a5) (fun r64 σ64 => if r64 = (0 : Int32) then (j74 σ64) else (j75 ((1 : Int32), σ64)))))))))))))) else (j20 ()))) else (j20 ()))))
set_option maxHeartbeats 4000000 in
set_option maxRecDepth 100000 in
theorem kX6_isHeard (l : Launch) (D : va_G) (ad : Nat → Nat) (cy : Nat → ClassId) (X : va_W) (A : Nat → Prop) (zs : Nat × Nat × Option Nat) (σ : St) (a1 : Int32) (a2 : Int32) (a3 : Int32) (a4 : Int32) (a5 : Int32) (r0 : Int32) (σ0 : St) (h : fX6_isHeard σ a1 a2 a3 a4 a5 = some (r0, σ0)) : Met l yX6_isHeard wsX6_isHeard rmX6_isHeard (qPc ceM 42 ad cy X A D zs [.ref (ad 0), .int a1, .int a2, .int a3, .int a4, .int a5] σ) (qQi ceM 42 ad cy X A D r0 σ0) 0 0 A := by
  refine Met.ofW (cc := cX6_isHeard) (maxL := 7) (ret := (some .boolean)) (by decide) rfl ?_
  intro p e s m args below meth c s₁ B hml hv
  obtain ⟨ha, hP, hK, hE, hD⟩ := hv
  have C : qC ceM 42 ad cy X A D zs cX6_isHeard 7 RX6 wsX6_isHeard p s m args meth c (some .boolean) := ⟨B.exec, B.bytes, hml, findClass_of_methodNamed B.named, atoms_spec (ws := wsX6_isHeard) B.pre, hK, hD, B.returns, B.notSynchronized, hE⟩
  rw [show entryFrame m args 7 = entryFrame m ([.ref (ad 0), .int a1, .int a2, .int a3, .int a4, .int a5] : List Value).toArray 7 by rw [ha]]
  refine q_entry (A := A) (Nat.le_of_ble_eq_true rfl) hP (lv := [(0, .ref (ad 0)), (1, .int a1), (2, .int a2), (3, .int a3), (4, .int a4), (5, .int a5)]) rfl ?_
  unfold fX6_isHeard at h
  refine q_aload_n C dX6_isHeard_0 rfl 0 rfl ?_
  refine q_get C (Cn := RX6) (T := TX6) (Nf := 60) (ci := 6) (id := 0) (k := 46) (v := .ref (ad 29)) nX6_isHeard_X6 (by decide) (ceM_0 ad cy _ _ _) rfl (by decide) rfl hX6_isHeard_104 dX6_isHeard_1 ?_
  refine q_iload_n C dX6_isHeard_4 rfl 1 rfl ?_
  refine q_zald C (id := 29) (by decide) (ceM_29 ad cy _ _ _) dX6_isHeard_5 h (fun h => ?_)
  refine q_join (G := fun (y20 : Unit) => qVi ceM 42 ad cy X A D p l e (headSpec wsX6_isHeard rmX6_isHeard).room s m args below meth c 7 r0 σ0 20 [] [] σ) h (fun y20 h => ?_) (fun j20 hj20 h => ?_)
  · refine q_iconst C (v := 0) dX6_isHeard_20 (by decide) ?_
    exact q_zret C rfl dX6_isHeard_21 h
  refine q_if_ne C (tgt := 20) dX6_isHeard_6 (by decide) h (fun h => ?_) (fun h => ?_)
  · exact q_sub [] rfl (hj20 () h)
  · refine q_aload_n C dX6_isHeard_9 rfl 0 rfl ?_
    refine q_get C (Cn := RX6) (T := TX6) (Nf := 60) (ci := 6) (id := 0) (k := 48) (v := .ref (ad 31)) nX6_isHeard_X6 (by decide) (ceM_0 ad cy _ _ _) rfl (by decide) rfl hX6_isHeard_110 dX6_isHeard_10 ?_
    refine q_iload_n C dX6_isHeard_13 rfl 1 rfl ?_
    refine q_iald C (id := 31) (by decide) (ceM_31 ad cy _ _ _) dX6_isHeard_14 h (fun h => ?_)
    refine q_iload C dX6_isHeard_15 4 rfl ?_
    refine q_icmp_eq C (tgt := 22) dX6_isHeard_17 (by decide) h (fun h => ?_) (fun h => ?_)
    · refine q_aload_n C dX6_isHeard_22 rfl 0 rfl ?_
      refine q_get C (Cn := RX6) (T := TX6) (Nf := 60) (ci := 6) (id := 0) (k := 42) (v := .ref (ad 27)) nX6_isHeard_X6 (by decide) (ceM_0 ad cy _ _ _) rfl (by decide) rfl hX6_isHeard_98 dX6_isHeard_23 ?_
      refine q_bipush C (v := 6) dX6_isHeard_26 (by decide) ?_
      refine q_aload_n C dX6_isHeard_28 rfl 0 rfl ?_
      refine q_get C (Cn := RX6) (T := TX6) (Nf := 60) (ci := 6) (id := 0) (k := 44) (v := .ref (ad 28)) nX6_isHeard_X6 (by decide) (ceM_0 ad cy _ _ _) rfl (by decide) rfl hX6_isHeard_101 dX6_isHeard_29 ?_
      refine q_aload_n C dX6_isHeard_32 rfl 0 rfl ?_
      refine q_get C (Cn := RX6) (T := TX6) (Nf := 60) (ci := 6) (id := 0) (k := 47) (v := .ref (ad 30)) nX6_isHeard_X6 (by decide) (ceM_0 ad cy _ _ _) rfl (by decide) rfl hX6_isHeard_107 dX6_isHeard_33 ?_
      refine q_iload_n C dX6_isHeard_36 rfl 1 rfl ?_
      refine q_iald C (id := 30) (by decide) (ceM_30 ad cy _ _ _) dX6_isHeard_37 h (fun h => ?_)
      refine q_iald C (id := 28) (by decide) (ceM_28 ad cy _ _ _) dX6_isHeard_38 h (fun h => ?_)
      refine q_imul C dX6_isHeard_39 ?_
      refine q_iload_n C dX6_isHeard_40 rfl 2 rfl ?_
      refine q_iadd C dX6_isHeard_41 ?_
      refine q_iald C (id := 27) (by decide) (ceM_27 ad cy _ _ _) dX6_isHeard_42 h (fun h => ?_)
      refine q_istoreL C dX6_isHeard_43 (by decide) h (lw := fun x43 => [(0, .ref (ad 0)), (1, .int a1), (2, .int a2), (3, .int a3), (4, .int a4), (5, .int a5), (6, .int x43)]) (fun _ => rfl) (fun x43 h => ?_)
      refine q_iload C dX6_isHeard_45 6 rfl ?_
      refine q_iconst C (v := -1) dX6_isHeard_47 (by decide) ?_
      refine q_join (G := fun (y75 : Int32 × St) => qVi ceM 42 ad cy X A D p l e (headSpec wsX6_isHeard rmX6_isHeard).room s m args below meth c 7 r0 σ0 75 [] [.int y75.1] y75.2) h (fun y75 h => ?_) (fun j75 hj75 h => ?_)
      · exact q_zret C rfl dX6_isHeard_75 h
      refine q_join (G := fun (y74 : St) => qVi ceM 42 ad cy X A D p l e (headSpec wsX6_isHeard rmX6_isHeard).room s m args below meth c 7 r0 σ0 74 [] [] y74) h (fun y74 h => ?_) (fun j74 hj74 h => ?_)
      · refine q_iconst C (v := 0) dX6_isHeard_74 (by decide) ?_
        exact q_sub [] rfl (hj75 ((0 : Int32), y74) h)
      refine q_icmp_eq C (tgt := 74) dX6_isHeard_48 (by decide) h (fun h => ?_) (fun h => ?_)
      · exact q_sub [] rfl (hj74 σ h)
      · refine q_iload C dX6_isHeard_51 4 rfl ?_
        refine q_iload C dX6_isHeard_53 6 rfl ?_
        refine q_iadd C dX6_isHeard_55 ?_
        refine q_iload_n C dX6_isHeard_56 rfl 3 rfl ?_
        refine q_icmp_gt C (tgt := 74) dX6_isHeard_57 (by decide) h (fun h => ?_) (fun h => ?_)
        · exact q_sub [] rfl (hj74 σ h)
        · refine q_aload_n C dX6_isHeard_60 rfl 0 rfl ?_
          refine q_iload_n C dX6_isHeard_61 rfl 1 rfl ?_
          refine q_iload C dX6_isHeard_62 5 rfl ?_
          refine q_callVi C (rm := rmX6_verdictOf) (As := [.int a1, .int a5]) (rest := []) (id := 0) (ci := 6) (fun r9 σ9 h9 => kX6_verdictOf l D ad cy X A zs σ a1 a5 r9 σ9 h9) gX6_isHeard_X6_verdictOf rfl rfl rfl hyX6_verdictOf ⟨Nat.le_of_ble_eq_true rfl, Nat.le_of_ble_eq_true rfl⟩ (by decide) (ceM_0 ad cy _ _ _) rfl rfl rfl (Nat.le_of_ble_eq_true rfl) dX6_isHeard_64 ⟨Nat.zero_le _, Nat.zero_le _⟩ h (fun r64 σ64 h => ?_)
          refine q_if_eq C (tgt := 74) dX6_isHeard_67 (by decide) h (fun h => ?_) (fun h => ?_)
          · exact q_sub [] rfl (hj74 σ64 h)
          · refine q_iconst C (v := 1) dX6_isHeard_70 (by decide) ?_
            refine q_goto C (tgt := 75) dX6_isHeard_71 (by decide) ?_
            exact q_sub [] rfl (hj75 ((1 : Int32), σ64) h)
    · exact q_sub [] rfl (hj20 () h)
abbrev rmX6_asks : Room := { frames := 4, cells := 0, slots := 0, locals := 98 }
theorem hyX6_asks : yX6_asks.cls = RX6 ∧ yX6_asks.cls ≠ "java/lang/invoke/MethodHandle" ∧ yX6_asks.cls ≠ "java/lang/invoke/VarHandle" ∧ (parseMethodDescriptor yX6_asks.desc).map (fun d => d.parameters.length) = some 5 := by decide +kernel
theorem nX6_asks_X6 : ∀ w ∈ u_ws RX6 TX6 60, w ∈ wsX6_asks := fun w h => List.mem_cons_of_mem _ (List.mem_append_right _ h)
theorem hX6_asks_116 : Cond.fieldLink RX6 116 (TX6 50).1 (TX6 50).2.1 (TX6 50).2.2.1 ∈ wsX6_asks := by decide +kernel
theorem hX6_asks_134 : Cond.fieldLink RX6 134 (TX6 56).1 (TX6 56).2.1 (TX6 56).2.2.1 ∈ wsX6_asks := by decide +kernel
theorem hX6_asks_119 : Cond.fieldLink RX6 119 (TX6 51).1 (TX6 51).2.1 (TX6 51).2.2.1 ∈ wsX6_asks := by decide +kernel
theorem hX6_asks_140 : Cond.fieldLink RX6 140 (TX6 58).1 (TX6 58).2.1 (TX6 58).2.2.1 ∈ wsX6_asks := by decide +kernel
theorem hX6_asks_107 : Cond.fieldLink RX6 107 (TX6 47).1 (TX6 47).2.1 (TX6 47).2.2.1 ∈ wsX6_asks := by decide +kernel
theorem hX6_asks_253 : Cond.fieldLink RX6 253 (TX6 43).1 (TX6 43).2.1 (TX6 43).2.2.1 ∈ wsX6_asks := by decide +kernel
theorem hX6_asks_250 : Cond.fieldLink RX6 250 (TX6 37).1 (TX6 37).2.1 (TX6 37).2.2.1 ∈ wsX6_asks := by decide +kernel
theorem hX6_asks_98 : Cond.fieldLink RX6 98 (TX6 42).1 (TX6 42).2.1 (TX6 42).2.2.1 ∈ wsX6_asks := by decide +kernel
def fX6_asks_L (a1 : Int32) (a2 : Int32) (a3 : Int32) (a4 : Int32) (a5 : Int32) : Nat → Nat → Int32 → St → Option (Int32 × St)
  | 0, _, _, _ => none
  | n + 1, lab, v7, σ => if lab = 0 then (if (12 : Int32) ≤ v7 then (fX6_asks_L a1 a2 a3 a4 a5 n 1 (0 : Int32) σ) else (qix v7 12 (qlet (sI σ 40 v7.toNatClampNeg (vp_nar .boolean (0 : Int32))) (fun σ47 => qlet (v7 + (1 : Int32)) (fun x48 => fX6_asks_L a1 a2 a3 a4 a5 n 0 x48 σ47))))) else if lab = 1 then (if a5 ≤ v7 then (qix (1 : Int32) 8 (qlet (sI σ 38 (1 : Int32).toNatClampNeg (0 : Int32)) (fun σ103 => qix (2 : Int32) 8 (qlet (sI σ103 38 (2 : Int32).toNatClampNeg (0 : Int32)) (fun σ110 => qix (3 : Int32) 8 (qlet (sI σ110 38 (3 : Int32).toNatClampNeg (0 : Int32)) (fun σ117 => fX6_asks_L a1 a2 a3 a4 a5 n 2 (0 : Int32) σ117))))))) else (qcall (fX6_isHeard σ v7 a1 a2 a3 a5) (fun r72 σ72 => qlet (fun (y91 : St) => (qlet (v7 + (1 : Int32)) (fun x91 => fX6_asks_L a1 a2 a3 a4 a5 n 1 x91 y91))) (fun j91 => (if r72 = (0 : Int32) then (j91 σ72) else (qix v7 300 (qix (σ72.1 30 v7.toNatClampNeg) 12 (qlet (sI σ72 40 (σ72.1 30 v7.toNatClampNeg).toNatClampNeg (vp_nar .boolean (1 : Int32))) (fun σ90 => j91 σ90))))))))) else if lab = 2 then (if (σ.1 0 43) ≤ v7 then (qcall (fX6_lightOf σ a1 a3) (fun r208 σ208 => qix (4 : Int32) 8 (qlet (sI σ208 38 (4 : Int32).toNatClampNeg r208) (fun σ211 => qcall (fX6_hasCloud σ211 a1 a3 a5) (fun r222 σ222 => qlet (fun (y233 : Int32) => (qix (5 : Int32) 8 (qlet (sI σ222 38 (5 : Int32).toNatClampNeg y233) (fun σ233 => qix (6 : Int32) 8 (qlet (sI σ233 38 (6 : Int32).toNatClampNeg (0 : Int32)) (fun σ241 => fX6_asks_L a1 a2 a3 a4 a5 n 3 (0 : Int32) σ241)))))) (fun j233 => (if r222 = (0 : Int32) then (j233 (0 : Int32)) else (j233 (1 : Int32))))))))) else (qix v7 12 (qlet (fun (y194 : St) => (qlet (v7 + (1 : Int32)) (fun x194 => fX6_asks_L a1 a2 a3 a4 a5 n 2 x194 y194))) (fun j194 => (if (σ.1 40 v7.toNatClampNeg) = (0 : Int32) then (j194 σ) else (qcall (fX6_worthOf σ v7 a2 a5) (fun r149 σ149 => qix (1 : Int32) 8 (qix (1 : Int32) 8 (qlet (sI σ149 38 (1 : Int32).toNatClampNeg ((σ149.1 38 (1 : Int32).toNatClampNeg) + (1 : Int32))) (fun σ163 => qix (2 : Int32) 8 (qix (2 : Int32) 8 (qlet (sI σ163 38 (2 : Int32).toNatClampNeg ((σ163.1 38 (2 : Int32).toNatClampNeg) + r149)) (fun σ174 => qix (3 : Int32) 8 (if r149 ≤ (σ174.1 38 (3 : Int32).toNatClampNeg) then (j194 σ174) else (qix (3 : Int32) 8 (qlet (sI σ174 38 (3 : Int32).toNatClampNeg r149) (fun σ193 => j194 σ193))))))))))))))))) else (if (σ.1 0 37) ≤ v7 then (qix (7 : Int32) 8 (qlet (sI σ 38 (7 : Int32).toNatClampNeg a4) (fun σ350 => some ((0 : Int32), σ350)))) else (qix (((6 : Int32) * v7) + a1) 36 (qlet (σ.1 27 (((6 : Int32) * v7) + a1).toNatClampNeg) (fun x266 => qlet (fun (y336 : St) => (qlet (v7 + (1 : Int32)) (fun x336 => fX6_asks_L a1 a2 a3 a4 a5 n 3 x336 y336))) (fun j336 => (if v7 = a1 then (j336 σ) else (if x266 = (-1 : Int32) then (j336 σ) else (qix v7 6 (if a4 < (σ.1 32 v7.toNatClampNeg) then (qix (((16 : Int32) * v7) + a4) 96 (qlet (σ.1 33 (((16 : Int32) * v7) + a4).toNatClampNeg) (fun x308 => if a3 < x308 then (j336 σ) else (if a2 < (x308 + x266) then (j336 σ) else (qix (6 : Int32) 8 (qix (6 : Int32) 8 (qlet (sI σ 38 (6 : Int32).toNatClampNeg ((σ.1 38 (6 : Int32).toNatClampNeg) + (1 : Int32))) (fun σ335 => j336 σ335)))))))) else (j336 σ))))))))))
def fX6_asks (σ : St) (a1 : Int32) (a2 : Int32) (a3 : Int32) (a4 : Int32) (a5 : Int32) : Option (Int32 × St) := qix a1 6 (qlet ((((16 : Int32) * a1) + (σ.1 32 a1.toNatClampNeg)) - (1 : Int32)) (fun x13 => qix x13 96 (qix (0 : Int32) 8 (qlet (sI σ 38 (0 : Int32).toNatClampNeg (a2 - (σ.1 33 x13.toNatClampNeg))) (fun σ29 => fX6_asks_L a1 a2 a3 a4 a5 100000 0 (0 : Int32) σ29)))))
set_option maxHeartbeats 4000000 in
set_option maxRecDepth 100000 in
theorem kX6_asks_L {ad : Nat → Nat} {cy : Nat → ClassId} {X : va_W} {A : Nat → Prop} {D : va_G} {zs : Nat × Nat × Option Nat} {p : Program} {l : Launch} {e : Env} {s : State} {m : MethodId} {args : Array Value} {below : List Frame} {meth : Method} {c : Code} {a1 : Int32} {a2 : Int32} {a3 : Int32} {a4 : Int32} {a5 : Int32} (C : qC ceM 42 ad cy X A D zs cX6_asks 10 RX6 wsX6_asks p s m args meth c none) (r0 : Int32) (σ0 : St) (n : Nat) : (∀ (v7 : Int32) (σ : St), fX6_asks_L a1 a2 a3 a4 a5 n 0 v7 σ = some (r0, σ0) → qVv ceM 42 ad cy X A D p l e (headSpec wsX6_asks rmX6_asks).room s m args below meth c 10 r0 σ0 33 [(0, .ref (ad 0)), (1, .int a1), (2, .int a2), (3, .int a3), (4, .int a4), (5, .int a5), (7, .int v7)] [] σ) ∧ (∀ (v7 : Int32) (σ : St), fX6_asks_L a1 a2 a3 a4 a5 n 1 v7 σ = some (r0, σ0) → qVv ceM 42 ad cy X A D p l e (headSpec wsX6_asks rmX6_asks).room s m args below meth c 10 r0 σ0 57 [(0, .ref (ad 0)), (1, .int a1), (2, .int a2), (3, .int a3), (4, .int a4), (5, .int a5), (7, .int v7)] [] σ) ∧ (∀ (v7 : Int32) (σ : St), fX6_asks_L a1 a2 a3 a4 a5 n 2 v7 σ = some (r0, σ0) → qVv ceM 42 ad cy X A D p l e (headSpec wsX6_asks rmX6_asks).room s m args below meth c 10 r0 σ0 121 [(0, .ref (ad 0)), (1, .int a1), (2, .int a2), (3, .int a3), (4, .int a4), (5, .int a5), (7, .int v7)] [] σ) ∧ (∀ (v7 : Int32) (σ : St), fX6_asks_L a1 a2 a3 a4 a5 n 3 v7 σ = some (r0, σ0) → qVv ceM 42 ad cy X A D p l e (headSpec wsX6_asks rmX6_asks).room s m args below meth c 10 r0 σ0 245 [(0, .ref (ad 0)), (1, .int a1), (2, .int a2), (3, .int a3), (4, .int a4), (7, .int v7)] [] σ) := by
  induction n with
  | zero =>
    refine ⟨?_, ?_, ?_, ?_⟩
    · intro v7 σ h; cases h
    · intro v7 σ h; cases h
    · intro v7 σ h; cases h
    · intro v7 σ h; cases h
  | succ n ih =>
    refine ⟨?_, ?_, ?_, ?_⟩
    · intro v7 σ h
      rw [fX6_asks_L] at h
      rw [if_pos rfl] at h
      refine q_iload C dX6_asks_33 6 rfl ?_
      refine q_bipush C (v := 12) dX6_asks_35 (by decide) ?_
      refine q_icmp_ge C (tgt := 54) dX6_asks_37 (by decide) h (fun h => ?_) (fun h => ?_)
      · refine q_iconst C (v := 0) dX6_asks_54 (by decide) ?_
        refine q_istore C dX6_asks_55 (by decide) (lv' := [(0, .ref (ad 0)), (1, .int a1), (2, .int a2), (3, .int a3), (4, .int a4), (5, .int a5), (7, .int (0 : Int32))]) rfl ?_
        exact q_sub [0, 1, 2, 3, 4, 5, 6] rfl (ih.2.1 (0 : Int32) σ h)
      · refine q_aload_n C dX6_asks_40 rfl 0 rfl ?_
        refine q_get C (Cn := RX6) (T := TX6) (Nf := 60) (ci := 6) (id := 0) (k := 58) (v := .ref (ad 40)) nX6_asks_X6 (by decide) (ceM_0 ad cy _ _ _) rfl (by decide) rfl hX6_asks_140 dX6_asks_41 ?_
        refine q_iload C dX6_asks_44 6 rfl ?_
        refine q_iconst C (v := 0) dX6_asks_46 (by decide) ?_
        refine q_zast C (id := 40) (by decide) (fun f g => ceM_40 ad cy _ f g) dX6_asks_47 h (fun σ47 h => ?_)
        refine q_iincL C dX6_asks_48 6 rfl (by decide) (nv := 1) (by decide) h (lw := fun x48 => [(0, .ref (ad 0)), (1, .int a1), (2, .int a2), (3, .int a3), (4, .int a4), (5, .int a5), (7, .int x48)]) (fun _ => rfl) (fun x48 h => ?_)
        refine q_goto C (tgt := 33) dX6_asks_51 (by decide) ?_
        exact q_sub [0, 1, 2, 3, 4, 5, 6] rfl (ih.1 x48 σ47 h)
    · intro v7 σ h
      rw [fX6_asks_L] at h
      rw [if_neg (by decide)] at h
      rw [if_pos rfl] at h
      refine q_iload C dX6_asks_57 6 rfl ?_
      refine q_iload C dX6_asks_59 5 rfl ?_
      refine q_icmp_ge C (tgt := 97) dX6_asks_61 (by decide) h (fun h => ?_) (fun h => ?_)
      · refine q_aload_n C dX6_asks_97 rfl 0 rfl ?_
        refine q_get C (Cn := RX6) (T := TX6) (Nf := 60) (ci := 6) (id := 0) (k := 56) (v := .ref (ad 38)) nX6_asks_X6 (by decide) (ceM_0 ad cy _ _ _) rfl (by decide) rfl hX6_asks_134 dX6_asks_98 ?_
        refine q_iconst C (v := 1) dX6_asks_101 (by decide) ?_
        refine q_iconst C (v := 0) dX6_asks_102 (by decide) ?_
        refine q_iast C (id := 38) (by decide) (fun f g => ceM_38 ad cy _ f g) dX6_asks_103 h (fun σ103 h => ?_)
        refine q_aload_n C dX6_asks_104 rfl 0 rfl ?_
        refine q_get C (Cn := RX6) (T := TX6) (Nf := 60) (ci := 6) (id := 0) (k := 56) (v := .ref (ad 38)) nX6_asks_X6 (by decide) (ceM_0 ad cy _ _ _) rfl (by decide) rfl hX6_asks_134 dX6_asks_105 ?_
        refine q_iconst C (v := 2) dX6_asks_108 (by decide) ?_
        refine q_iconst C (v := 0) dX6_asks_109 (by decide) ?_
        refine q_iast C (id := 38) (by decide) (fun f g => ceM_38 ad cy _ f g) dX6_asks_110 h (fun σ110 h => ?_)
        refine q_aload_n C dX6_asks_111 rfl 0 rfl ?_
        refine q_get C (Cn := RX6) (T := TX6) (Nf := 60) (ci := 6) (id := 0) (k := 56) (v := .ref (ad 38)) nX6_asks_X6 (by decide) (ceM_0 ad cy _ _ _) rfl (by decide) rfl hX6_asks_134 dX6_asks_112 ?_
        refine q_iconst C (v := 3) dX6_asks_115 (by decide) ?_
        refine q_iconst C (v := 0) dX6_asks_116 (by decide) ?_
        refine q_iast C (id := 38) (by decide) (fun f g => ceM_38 ad cy _ f g) dX6_asks_117 h (fun σ117 h => ?_)
        refine q_iconst C (v := 0) dX6_asks_118 (by decide) ?_
        refine q_istore C dX6_asks_119 (by decide) (lv' := [(0, .ref (ad 0)), (1, .int a1), (2, .int a2), (3, .int a3), (4, .int a4), (5, .int a5), (7, .int (0 : Int32))]) rfl ?_
        exact q_sub [0, 1, 2, 3, 4, 5, 6] rfl (ih.2.2.1 (0 : Int32) σ117 h)
      · refine q_aload_n C dX6_asks_64 rfl 0 rfl ?_
        refine q_iload C dX6_asks_65 6 rfl ?_
        refine q_iload_n C dX6_asks_67 rfl 1 rfl ?_
        refine q_iload_n C dX6_asks_68 rfl 2 rfl ?_
        refine q_iload_n C dX6_asks_69 rfl 3 rfl ?_
        refine q_iload C dX6_asks_70 5 rfl ?_
        refine q_callVi C (rm := rmX6_isHeard) (As := [.int v7, .int a1, .int a2, .int a3, .int a5]) (rest := []) (id := 0) (ci := 6) (fun r9 σ9 h9 => kX6_isHeard l D ad cy X A zs σ v7 a1 a2 a3 a5 r9 σ9 h9) gX6_asks_X6_isHeard rfl rfl rfl hyX6_isHeard ⟨Nat.le_of_ble_eq_true rfl, Nat.le_of_ble_eq_true rfl⟩ (by decide) (ceM_0 ad cy _ _ _) rfl rfl rfl (Nat.le_of_ble_eq_true rfl) dX6_asks_72 ⟨Nat.zero_le _, Nat.zero_le _⟩ h (fun r72 σ72 h => ?_)
        refine q_join (G := fun (y91 : St) => qVv ceM 42 ad cy X A D p l e (headSpec wsX6_asks rmX6_asks).room s m args below meth c 10 r0 σ0 91 [(0, .ref (ad 0)), (1, .int a1), (2, .int a2), (3, .int a3), (4, .int a4), (5, .int a5), (7, .int v7)] [] y91) h (fun y91 h => ?_) (fun j91 hj91 h => ?_)
        · refine q_iincL C dX6_asks_91 6 rfl (by decide) (nv := 1) (by decide) h (lw := fun x91 => [(0, .ref (ad 0)), (1, .int a1), (2, .int a2), (3, .int a3), (4, .int a4), (5, .int a5), (7, .int x91)]) (fun _ => rfl) (fun x91 h => ?_)
          refine q_goto C (tgt := 57) dX6_asks_94 (by decide) ?_
          exact q_sub [0, 1, 2, 3, 4, 5, 6] rfl (ih.2.1 x91 y91 h)
        refine q_if_eq C (tgt := 91) dX6_asks_75 (by decide) h (fun h => ?_) (fun h => ?_)
        · exact q_sub [0, 1, 2, 3, 4, 5, 6] rfl (hj91 σ72 h)
        · refine q_aload_n C dX6_asks_78 rfl 0 rfl ?_
          refine q_get C (Cn := RX6) (T := TX6) (Nf := 60) (ci := 6) (id := 0) (k := 58) (v := .ref (ad 40)) nX6_asks_X6 (by decide) (ceM_0 ad cy _ _ _) rfl (by decide) rfl hX6_asks_140 dX6_asks_79 ?_
          refine q_aload_n C dX6_asks_82 rfl 0 rfl ?_
          refine q_get C (Cn := RX6) (T := TX6) (Nf := 60) (ci := 6) (id := 0) (k := 47) (v := .ref (ad 30)) nX6_asks_X6 (by decide) (ceM_0 ad cy _ _ _) rfl (by decide) rfl hX6_asks_107 dX6_asks_83 ?_
          refine q_iload C dX6_asks_86 6 rfl ?_
          refine q_iald C (id := 30) (by decide) (ceM_30 ad cy _ _ _) dX6_asks_88 h (fun h => ?_)
          refine q_iconst C (v := 1) dX6_asks_89 (by decide) ?_
          refine q_zast C (id := 40) (by decide) (fun f g => ceM_40 ad cy _ f g) dX6_asks_90 h (fun σ90 h => ?_)
          exact q_sub [0, 1, 2, 3, 4, 5, 6] rfl (hj91 σ90 h)
    · intro v7 σ h
      rw [fX6_asks_L] at h
      rw [if_neg (by decide)] at h
      rw [if_neg (by decide)] at h
      rw [if_pos rfl] at h
      refine q_iload C dX6_asks_121 6 rfl ?_
      refine q_aload_n C dX6_asks_123 rfl 0 rfl ?_
      refine q_get C (Cn := RX6) (T := TX6) (Nf := 60) (ci := 6) (id := 0) (k := 43) (v := .int (σ.1 0 43)) nX6_asks_X6 (by decide) (ceM_0 ad cy _ _ _) rfl (by decide) rfl hX6_asks_253 dX6_asks_124 ?_
      refine q_icmp_ge C (tgt := 200) dX6_asks_127 (by decide) h (fun h => ?_) (fun h => ?_)
      · refine q_aload_n C dX6_asks_200 rfl 0 rfl ?_
        refine q_get C (Cn := RX6) (T := TX6) (Nf := 60) (ci := 6) (id := 0) (k := 56) (v := .ref (ad 38)) nX6_asks_X6 (by decide) (ceM_0 ad cy _ _ _) rfl (by decide) rfl hX6_asks_134 dX6_asks_201 ?_
        refine q_iconst C (v := 4) dX6_asks_204 (by decide) ?_
        refine q_aload_n C dX6_asks_205 rfl 0 rfl ?_
        refine q_iload_n C dX6_asks_206 rfl 1 rfl ?_
        refine q_iload_n C dX6_asks_207 rfl 3 rfl ?_
        refine q_callVi C (rm := rmX6_lightOf) (As := [.int a1, .int a3]) (rest := [.int (4 : Int32), .ref (ad 38)]) (id := 0) (ci := 6) (fun r9 σ9 h9 => kX6_lightOf l D ad cy X A zs σ a1 a3 r9 σ9 h9) gX6_asks_X6_lightOf rfl rfl rfl hyX6_lightOf ⟨Nat.le_of_ble_eq_true rfl, Nat.le_of_ble_eq_true rfl⟩ (by decide) (ceM_0 ad cy _ _ _) rfl rfl rfl (Nat.le_of_ble_eq_true rfl) dX6_asks_208 ⟨Nat.zero_le _, Nat.zero_le _⟩ h (fun r208 σ208 h => ?_)
        refine q_iast C (id := 38) (by decide) (fun f g => ceM_38 ad cy _ f g) dX6_asks_211 h (fun σ211 h => ?_)
        refine q_aload_n C dX6_asks_212 rfl 0 rfl ?_
        refine q_get C (Cn := RX6) (T := TX6) (Nf := 60) (ci := 6) (id := 0) (k := 56) (v := .ref (ad 38)) nX6_asks_X6 (by decide) (ceM_0 ad cy _ _ _) rfl (by decide) rfl hX6_asks_134 dX6_asks_213 ?_
        refine q_iconst C (v := 5) dX6_asks_216 (by decide) ?_
        refine q_aload_n C dX6_asks_217 rfl 0 rfl ?_
        refine q_iload_n C dX6_asks_218 rfl 1 rfl ?_
        refine q_iload_n C dX6_asks_219 rfl 3 rfl ?_
        refine q_iload C dX6_asks_220 5 rfl ?_
        refine q_callVi C (rm := rmX6_hasCloud) (As := [.int a1, .int a3, .int a5]) (rest := [.int (5 : Int32), .ref (ad 38)]) (id := 0) (ci := 6) (fun r9 σ9 h9 => kX6_hasCloud l D ad cy X A zs σ211 a1 a3 a5 r9 σ9 h9) gX6_asks_X6_hasCloud rfl rfl rfl hyX6_hasCloud ⟨Nat.le_of_ble_eq_true rfl, Nat.le_of_ble_eq_true rfl⟩ (by decide) (ceM_0 ad cy _ _ _) rfl rfl rfl (Nat.le_of_ble_eq_true rfl) dX6_asks_222 ⟨Nat.zero_le _, Nat.zero_le _⟩ h (fun r222 σ222 h => ?_)
        refine q_join (G := fun (y233 : Int32) => qVv ceM 42 ad cy X A D p l e (headSpec wsX6_asks rmX6_asks).room s m args below meth c 10 r0 σ0 233 [(0, .ref (ad 0)), (1, .int a1), (2, .int a2), (3, .int a3), (4, .int a4)] [.int y233, .int (5 : Int32), .ref (ad 38)] σ222) h (fun y233 h => ?_) (fun j233 hj233 h => ?_)
        · refine q_iast C (id := 38) (by decide) (fun f g => ceM_38 ad cy _ f g) dX6_asks_233 h (fun σ233 h => ?_)
          refine q_aload_n C dX6_asks_234 rfl 0 rfl ?_
          refine q_get C (Cn := RX6) (T := TX6) (Nf := 60) (ci := 6) (id := 0) (k := 56) (v := .ref (ad 38)) nX6_asks_X6 (by decide) (ceM_0 ad cy _ _ _) rfl (by decide) rfl hX6_asks_134 dX6_asks_235 ?_
          refine q_bipush C (v := 6) dX6_asks_238 (by decide) ?_
          refine q_iconst C (v := 0) dX6_asks_240 (by decide) ?_
          refine q_iast C (id := 38) (by decide) (fun f g => ceM_38 ad cy _ f g) dX6_asks_241 h (fun σ241 h => ?_)
          refine q_iconst C (v := 0) dX6_asks_242 (by decide) ?_
          refine q_istore C dX6_asks_243 (by decide) (lv' := [(0, .ref (ad 0)), (1, .int a1), (2, .int a2), (3, .int a3), (4, .int a4), (7, .int (0 : Int32))]) rfl ?_
          exact q_sub [0, 1, 2, 3, 4, 5] rfl (ih.2.2.2 (0 : Int32) σ241 h)
        refine q_if_eq C (tgt := 232) dX6_asks_225 (by decide) h (fun h => ?_) (fun h => ?_)
        · refine q_iconst C (v := 0) dX6_asks_232 (by decide) ?_
          exact q_sub [0, 1, 2, 3, 4] rfl (hj233 (0 : Int32) h)
        · refine q_iconst C (v := 1) dX6_asks_228 (by decide) ?_
          refine q_goto C (tgt := 233) dX6_asks_229 (by decide) ?_
          exact q_sub [0, 1, 2, 3, 4] rfl (hj233 (1 : Int32) h)
      · refine q_aload_n C dX6_asks_130 rfl 0 rfl ?_
        refine q_get C (Cn := RX6) (T := TX6) (Nf := 60) (ci := 6) (id := 0) (k := 58) (v := .ref (ad 40)) nX6_asks_X6 (by decide) (ceM_0 ad cy _ _ _) rfl (by decide) rfl hX6_asks_140 dX6_asks_131 ?_
        refine q_iload C dX6_asks_134 6 rfl ?_
        refine q_zald C (id := 40) (by decide) (ceM_40 ad cy _ _ _) dX6_asks_136 h (fun h => ?_)
        refine q_join (G := fun (y194 : St) => qVv ceM 42 ad cy X A D p l e (headSpec wsX6_asks rmX6_asks).room s m args below meth c 10 r0 σ0 194 [(0, .ref (ad 0)), (1, .int a1), (2, .int a2), (3, .int a3), (4, .int a4), (5, .int a5), (7, .int v7)] [] y194) h (fun y194 h => ?_) (fun j194 hj194 h => ?_)
        · refine q_iincL C dX6_asks_194 6 rfl (by decide) (nv := 1) (by decide) h (lw := fun x194 => [(0, .ref (ad 0)), (1, .int a1), (2, .int a2), (3, .int a3), (4, .int a4), (5, .int a5), (7, .int x194)]) (fun _ => rfl) (fun x194 h => ?_)
          refine q_goto C (tgt := 121) dX6_asks_197 (by decide) ?_
          exact q_sub [0, 1, 2, 3, 4, 5, 6] rfl (ih.2.2.1 x194 y194 h)
        refine q_if_ne C (tgt := 143) dX6_asks_137 (by decide) h (fun h => ?_) (fun h => ?_)
        · refine q_aload_n C dX6_asks_143 rfl 0 rfl ?_
          refine q_iload C dX6_asks_144 6 rfl ?_
          refine q_iload_n C dX6_asks_146 rfl 2 rfl ?_
          refine q_iload C dX6_asks_147 5 rfl ?_
          refine q_callVi C (rm := rmX6_worthOf) (As := [.int v7, .int a2, .int a5]) (rest := []) (id := 0) (ci := 6) (fun r9 σ9 h9 => kX6_worthOf l D ad cy X A zs σ v7 a2 a5 r9 σ9 h9) gX6_asks_X6_worthOf rfl rfl rfl hyX6_worthOf ⟨Nat.le_of_ble_eq_true rfl, Nat.le_of_ble_eq_true rfl⟩ (by decide) (ceM_0 ad cy _ _ _) rfl rfl rfl (Nat.le_of_ble_eq_true rfl) dX6_asks_149 ⟨Nat.zero_le _, Nat.zero_le _⟩ h (fun r149 σ149 h => ?_)
          refine q_istore C dX6_asks_152 (by decide) (lv' := [(0, .ref (ad 0)), (1, .int a1), (2, .int a2), (3, .int a3), (4, .int a4), (5, .int a5), (7, .int v7), (8, .int r149)]) rfl ?_
          refine q_aload_n C dX6_asks_154 rfl 0 rfl ?_
          refine q_get C (Cn := RX6) (T := TX6) (Nf := 60) (ci := 6) (id := 0) (k := 56) (v := .ref (ad 38)) nX6_asks_X6 (by decide) (ceM_0 ad cy _ _ _) rfl (by decide) rfl hX6_asks_134 dX6_asks_155 ?_
          refine q_iconst C (v := 1) dX6_asks_158 (by decide) ?_
          refine q_dup2 C dX6_asks_159 rfl rfl ?_
          refine q_iald C (id := 38) (by decide) (ceM_38 ad cy _ _ _) dX6_asks_160 h (fun h => ?_)
          refine q_iconst C (v := 1) dX6_asks_161 (by decide) ?_
          refine q_iadd C dX6_asks_162 ?_
          refine q_iast C (id := 38) (by decide) (fun f g => ceM_38 ad cy _ f g) dX6_asks_163 h (fun σ163 h => ?_)
          refine q_aload_n C dX6_asks_164 rfl 0 rfl ?_
          refine q_get C (Cn := RX6) (T := TX6) (Nf := 60) (ci := 6) (id := 0) (k := 56) (v := .ref (ad 38)) nX6_asks_X6 (by decide) (ceM_0 ad cy _ _ _) rfl (by decide) rfl hX6_asks_134 dX6_asks_165 ?_
          refine q_iconst C (v := 2) dX6_asks_168 (by decide) ?_
          refine q_dup2 C dX6_asks_169 rfl rfl ?_
          refine q_iald C (id := 38) (by decide) (ceM_38 ad cy _ _ _) dX6_asks_170 h (fun h => ?_)
          refine q_iload C dX6_asks_171 7 rfl ?_
          refine q_iadd C dX6_asks_173 ?_
          refine q_iast C (id := 38) (by decide) (fun f g => ceM_38 ad cy _ f g) dX6_asks_174 h (fun σ174 h => ?_)
          refine q_iload C dX6_asks_175 7 rfl ?_
          refine q_aload_n C dX6_asks_177 rfl 0 rfl ?_
          refine q_get C (Cn := RX6) (T := TX6) (Nf := 60) (ci := 6) (id := 0) (k := 56) (v := .ref (ad 38)) nX6_asks_X6 (by decide) (ceM_0 ad cy _ _ _) rfl (by decide) rfl hX6_asks_134 dX6_asks_178 ?_
          refine q_iconst C (v := 3) dX6_asks_181 (by decide) ?_
          refine q_iald C (id := 38) (by decide) (ceM_38 ad cy _ _ _) dX6_asks_182 h (fun h => ?_)
          refine q_icmp_le C (tgt := 194) dX6_asks_183 (by decide) h (fun h => ?_) (fun h => ?_)
          · exact q_sub [0, 1, 2, 3, 4, 5, 6] rfl (hj194 σ174 h)
          · refine q_aload_n C dX6_asks_186 rfl 0 rfl ?_
            refine q_get C (Cn := RX6) (T := TX6) (Nf := 60) (ci := 6) (id := 0) (k := 56) (v := .ref (ad 38)) nX6_asks_X6 (by decide) (ceM_0 ad cy _ _ _) rfl (by decide) rfl hX6_asks_134 dX6_asks_187 ?_
            refine q_iconst C (v := 3) dX6_asks_190 (by decide) ?_
            refine q_iload C dX6_asks_191 7 rfl ?_
            refine q_iast C (id := 38) (by decide) (fun f g => ceM_38 ad cy _ f g) dX6_asks_193 h (fun σ193 h => ?_)
            exact q_sub [0, 1, 2, 3, 4, 5, 6] rfl (hj194 σ193 h)
        · refine q_goto C (tgt := 194) dX6_asks_140 (by decide) ?_
          exact q_sub [0, 1, 2, 3, 4, 5, 6] rfl (hj194 σ h)
    · intro v7 σ h
      rw [fX6_asks_L] at h
      rw [if_neg (by decide)] at h
      rw [if_neg (by decide)] at h
      rw [if_neg (by decide)] at h
      refine q_iload C dX6_asks_245 5 rfl ?_
      refine q_aload_n C dX6_asks_247 rfl 0 rfl ?_
      refine q_get C (Cn := RX6) (T := TX6) (Nf := 60) (ci := 6) (id := 0) (k := 37) (v := .int (σ.1 0 37)) nX6_asks_X6 (by decide) (ceM_0 ad cy _ _ _) rfl (by decide) rfl hX6_asks_250 dX6_asks_248 ?_
      refine q_icmp_ge C (tgt := 342) dX6_asks_251 (by decide) h (fun h => ?_) (fun h => ?_)
      · refine q_aload_n C dX6_asks_342 rfl 0 rfl ?_
        refine q_get C (Cn := RX6) (T := TX6) (Nf := 60) (ci := 6) (id := 0) (k := 56) (v := .ref (ad 38)) nX6_asks_X6 (by decide) (ceM_0 ad cy _ _ _) rfl (by decide) rfl hX6_asks_134 dX6_asks_343 ?_
        refine q_bipush C (v := 7) dX6_asks_346 (by decide) ?_
        refine q_iload C dX6_asks_348 4 rfl ?_
        refine q_iast C (id := 38) (by decide) (fun f g => ceM_38 ad cy _ f g) dX6_asks_350 h (fun σ350 h => ?_)
        exact q_vret C (r0 := r0) rfl dX6_asks_351 h
      · refine q_aload_n C dX6_asks_254 rfl 0 rfl ?_
        refine q_get C (Cn := RX6) (T := TX6) (Nf := 60) (ci := 6) (id := 0) (k := 42) (v := .ref (ad 27)) nX6_asks_X6 (by decide) (ceM_0 ad cy _ _ _) rfl (by decide) rfl hX6_asks_98 dX6_asks_255 ?_
        refine q_bipush C (v := 6) dX6_asks_258 (by decide) ?_
        refine q_iload C dX6_asks_260 5 rfl ?_
        refine q_imul C dX6_asks_262 ?_
        refine q_iload_n C dX6_asks_263 rfl 1 rfl ?_
        refine q_iadd C dX6_asks_264 ?_
        refine q_iald C (id := 27) (by decide) (ceM_27 ad cy _ _ _) dX6_asks_265 h (fun h => ?_)
        refine q_istoreL C dX6_asks_266 (by decide) h (lw := fun x266 => [(0, .ref (ad 0)), (1, .int a1), (2, .int a2), (3, .int a3), (4, .int a4), (7, .int v7), (8, .int x266)]) (fun _ => rfl) (fun x266 h => ?_)
        refine q_iload C dX6_asks_268 5 rfl ?_
        refine q_iload_n C dX6_asks_270 rfl 1 rfl ?_
        refine q_join (G := fun (y336 : St) => qVv ceM 42 ad cy X A D p l e (headSpec wsX6_asks rmX6_asks).room s m args below meth c 10 r0 σ0 336 [(0, .ref (ad 0)), (1, .int a1), (2, .int a2), (3, .int a3), (4, .int a4), (7, .int v7)] [] y336) h (fun y336 h => ?_) (fun j336 hj336 h => ?_)
        · refine q_iincL C dX6_asks_336 5 rfl (by decide) (nv := 1) (by decide) h (lw := fun x336 => [(0, .ref (ad 0)), (1, .int a1), (2, .int a2), (3, .int a3), (4, .int a4), (7, .int x336)]) (fun _ => rfl) (fun x336 h => ?_)
          refine q_goto C (tgt := 245) dX6_asks_339 (by decide) ?_
          exact q_sub [0, 1, 2, 3, 4, 5] rfl (ih.2.2.2 x336 y336 h)
        refine q_icmp_eq C (tgt := 336) dX6_asks_271 (by decide) h (fun h => ?_) (fun h => ?_)
        · exact q_sub [0, 1, 2, 3, 4, 5] rfl (hj336 σ h)
        · refine q_iload C dX6_asks_274 6 rfl ?_
          refine q_iconst C (v := -1) dX6_asks_276 (by decide) ?_
          refine q_icmp_eq C (tgt := 336) dX6_asks_277 (by decide) h (fun h => ?_) (fun h => ?_)
          · exact q_sub [0, 1, 2, 3, 4, 5] rfl (hj336 σ h)
          · refine q_aload_n C dX6_asks_280 rfl 0 rfl ?_
            refine q_get C (Cn := RX6) (T := TX6) (Nf := 60) (ci := 6) (id := 0) (k := 50) (v := .ref (ad 32)) nX6_asks_X6 (by decide) (ceM_0 ad cy _ _ _) rfl (by decide) rfl hX6_asks_116 dX6_asks_281 ?_
            refine q_iload C dX6_asks_284 5 rfl ?_
            refine q_iald C (id := 32) (by decide) (ceM_32 ad cy _ _ _) dX6_asks_286 h (fun h => ?_)
            refine q_iload C dX6_asks_287 4 rfl ?_
            refine q_icmp_gt C (tgt := 295) dX6_asks_289 (by decide) h (fun h => ?_) (fun h => ?_)
            · refine q_aload_n C dX6_asks_295 rfl 0 rfl ?_
              refine q_get C (Cn := RX6) (T := TX6) (Nf := 60) (ci := 6) (id := 0) (k := 51) (v := .ref (ad 33)) nX6_asks_X6 (by decide) (ceM_0 ad cy _ _ _) rfl (by decide) rfl hX6_asks_119 dX6_asks_296 ?_
              refine q_bipush C (v := 16) dX6_asks_299 (by decide) ?_
              refine q_iload C dX6_asks_301 5 rfl ?_
              refine q_imul C dX6_asks_303 ?_
              refine q_iload C dX6_asks_304 4 rfl ?_
              refine q_iadd C dX6_asks_306 ?_
              refine q_iald C (id := 33) (by decide) (ceM_33 ad cy _ _ _) dX6_asks_307 h (fun h => ?_)
              refine q_istoreL C dX6_asks_308 (by decide) h (lw := fun x308 => [(0, .ref (ad 0)), (1, .int a1), (2, .int a2), (3, .int a3), (4, .int a4), (7, .int v7), (8, .int x266), (9, .int x308)]) (fun _ => rfl) (fun x308 h => ?_)
              refine q_iload C dX6_asks_310 7 rfl ?_
              refine q_iload_n C dX6_asks_312 rfl 3 rfl ?_
              refine q_icmp_gt C (tgt := 336) dX6_asks_313 (by decide) h (fun h => ?_) (fun h => ?_)
              · exact q_sub [0, 1, 2, 3, 4, 5] rfl (hj336 σ h)
              · refine q_iload C dX6_asks_316 7 rfl ?_
                refine q_iload C dX6_asks_318 6 rfl ?_
                refine q_iadd C dX6_asks_320 ?_
                refine q_iload_n C dX6_asks_321 rfl 2 rfl ?_
                refine q_icmp_gt C (tgt := 336) dX6_asks_322 (by decide) h (fun h => ?_) (fun h => ?_)
                · exact q_sub [0, 1, 2, 3, 4, 5] rfl (hj336 σ h)
                · refine q_aload_n C dX6_asks_325 rfl 0 rfl ?_
                  refine q_get C (Cn := RX6) (T := TX6) (Nf := 60) (ci := 6) (id := 0) (k := 56) (v := .ref (ad 38)) nX6_asks_X6 (by decide) (ceM_0 ad cy _ _ _) rfl (by decide) rfl hX6_asks_134 dX6_asks_326 ?_
                  refine q_bipush C (v := 6) dX6_asks_329 (by decide) ?_
                  refine q_dup2 C dX6_asks_331 rfl rfl ?_
                  refine q_iald C (id := 38) (by decide) (ceM_38 ad cy _ _ _) dX6_asks_332 h (fun h => ?_)
                  refine q_iconst C (v := 1) dX6_asks_333 (by decide) ?_
                  refine q_iadd C dX6_asks_334 ?_
                  refine q_iast C (id := 38) (by decide) (fun f g => ceM_38 ad cy _ f g) dX6_asks_335 h (fun σ335 h => ?_)
                  exact q_sub [0, 1, 2, 3, 4, 5] rfl (hj336 σ335 h)
            · refine q_goto C (tgt := 336) dX6_asks_292 (by decide) ?_
              exact q_sub [0, 1, 2, 3, 4, 5] rfl (hj336 σ h)
set_option maxHeartbeats 4000000 in
set_option maxRecDepth 100000 in
theorem kX6_asks (l : Launch) (D : va_G) (ad : Nat → Nat) (cy : Nat → ClassId) (X : va_W) (A : Nat → Prop) (zs : Nat × Nat × Option Nat) (σ : St) (a1 : Int32) (a2 : Int32) (a3 : Int32) (a4 : Int32) (a5 : Int32) (r0 : Int32) (σ0 : St) (h : fX6_asks σ a1 a2 a3 a4 a5 = some (r0, σ0)) : Met l yX6_asks wsX6_asks rmX6_asks (qPc ceM 42 ad cy X A D zs [.ref (ad 0), .int a1, .int a2, .int a3, .int a4, .int a5] σ) (qQv ceM 42 ad cy X A D σ0) 0 0 A := by
  refine Met.ofW (cc := cX6_asks) (maxL := 10) (ret := none) (by decide) rfl ?_
  intro p e s m args below meth c s₁ B hml hv
  obtain ⟨ha, hP, hK, hE, hD⟩ := hv
  have C : qC ceM 42 ad cy X A D zs cX6_asks 10 RX6 wsX6_asks p s m args meth c none := ⟨B.exec, B.bytes, hml, findClass_of_methodNamed B.named, atoms_spec (ws := wsX6_asks) B.pre, hK, hD, B.returns, B.notSynchronized, hE⟩
  rw [show entryFrame m args 10 = entryFrame m ([.ref (ad 0), .int a1, .int a2, .int a3, .int a4, .int a5] : List Value).toArray 10 by rw [ha]]
  refine q_entry (A := A) (Nat.le_of_ble_eq_true rfl) hP (lv := [(0, .ref (ad 0)), (1, .int a1), (2, .int a2), (3, .int a3), (4, .int a4), (5, .int a5)]) rfl ?_
  unfold fX6_asks at h
  refine q_bipush C (v := 16) dX6_asks_0 (by decide) ?_
  refine q_iload_n C dX6_asks_2 rfl 1 rfl ?_
  refine q_imul C dX6_asks_3 ?_
  refine q_aload_n C dX6_asks_4 rfl 0 rfl ?_
  refine q_get C (Cn := RX6) (T := TX6) (Nf := 60) (ci := 6) (id := 0) (k := 50) (v := .ref (ad 32)) nX6_asks_X6 (by decide) (ceM_0 ad cy _ _ _) rfl (by decide) rfl hX6_asks_116 dX6_asks_5 ?_
  refine q_iload_n C dX6_asks_8 rfl 1 rfl ?_
  refine q_iald C (id := 32) (by decide) (ceM_32 ad cy _ _ _) dX6_asks_9 h (fun h => ?_)
  refine q_iadd C dX6_asks_10 ?_
  refine q_iconst C (v := 1) dX6_asks_11 (by decide) ?_
  refine q_isub C dX6_asks_12 ?_
  refine q_istoreL C dX6_asks_13 (by decide) h (lw := fun x13 => [(0, .ref (ad 0)), (1, .int a1), (2, .int a2), (3, .int a3), (4, .int a4), (5, .int a5), (6, .int x13)]) (fun _ => rfl) (fun x13 h => ?_)
  refine q_aload_n C dX6_asks_15 rfl 0 rfl ?_
  refine q_get C (Cn := RX6) (T := TX6) (Nf := 60) (ci := 6) (id := 0) (k := 56) (v := .ref (ad 38)) nX6_asks_X6 (by decide) (ceM_0 ad cy _ _ _) rfl (by decide) rfl hX6_asks_134 dX6_asks_16 ?_
  refine q_iconst C (v := 0) dX6_asks_19 (by decide) ?_
  refine q_iload_n C dX6_asks_20 rfl 2 rfl ?_
  refine q_aload_n C dX6_asks_21 rfl 0 rfl ?_
  refine q_get C (Cn := RX6) (T := TX6) (Nf := 60) (ci := 6) (id := 0) (k := 51) (v := .ref (ad 33)) nX6_asks_X6 (by decide) (ceM_0 ad cy _ _ _) rfl (by decide) rfl hX6_asks_119 dX6_asks_22 ?_
  refine q_iload C dX6_asks_25 6 rfl ?_
  refine q_iald C (id := 33) (by decide) (ceM_33 ad cy _ _ _) dX6_asks_27 h (fun h => ?_)
  refine q_isub C dX6_asks_28 ?_
  refine q_iast C (id := 38) (by decide) (fun f g => ceM_38 ad cy _ f g) dX6_asks_29 h (fun σ29 h => ?_)
  refine q_iconst C (v := 0) dX6_asks_30 (by decide) ?_
  refine q_istore C dX6_asks_31 (by decide) (lv' := [(0, .ref (ad 0)), (1, .int a1), (2, .int a2), (3, .int a3), (4, .int a4), (5, .int a5), (6, .int x13), (7, .int (0 : Int32))]) rfl ?_
  exact q_sub [0, 1, 2, 3, 4, 5, 7] rfl ((kX6_asks_L C r0 σ0 100000).1 (0 : Int32) σ29 h)
abbrev rmX6_value : Room := { frames := 0, cells := 0, slots := 0, locals := 0 }
theorem hyX6_value : yX6_value.cls = RX6 ∧ yX6_value.cls ≠ "java/lang/invoke/MethodHandle" ∧ yX6_value.cls ≠ "java/lang/invoke/VarHandle" ∧ (parseMethodDescriptor yX6_value.desc).map (fun d => d.parameters.length) = some 2 := by decide +kernel
theorem nX6_value_X6 : ∀ w ∈ u_ws RX6 TX6 60, w ∈ wsX6_value := by decide +kernel
theorem hX6_value_74 : Cond.fieldLink RX6 74 (TX6 31).1 (TX6 31).2.1 (TX6 31).2.2.1 ∈ wsX6_value := by decide +kernel
theorem hX6_value_137 : Cond.fieldLink RX6 137 (TX6 57).1 (TX6 57).2.1 (TX6 57).2.2.1 ∈ wsX6_value := by decide +kernel
theorem hX6_value_77 : Cond.fieldLink RX6 77 (TX6 32).1 (TX6 32).2.1 (TX6 32).2.2.1 ∈ wsX6_value := by decide +kernel
theorem hX6_value_134 : Cond.fieldLink RX6 134 (TX6 56).1 (TX6 56).2.1 (TX6 56).2.2.1 ∈ wsX6_value := by decide +kernel
def fX6_value_L (a1 : Int32) (a2 : Int32) : Nat → Int32 → Int32 → St → Option (Int32 × St)
  | 0, _, _, _ => none
  | n + 1, v3, v4, σ => if a2 ≤ v4 then (qix (0 : Int32) 500 (some ((σ.1 39 (0 : Int32).toNatClampNeg), σ))) else (qix v4 6000 (qlet (fun (y138 : Int32 × St) => (qlet (v4 + (1 : Int32)) (fun x138 => fX6_value_L a1 a2 n y138.1 x138 y138.2))) (fun j138 => (if (2 : Int32) ≤ (σ.1 19 v4.toNatClampNeg) then (qlet (v3 + (-1 : Int32)) (fun x66 => qix (x66 - (1 : Int32)) 500 (qlet (σ.1 39 (x66 - (1 : Int32)).toNatClampNeg) (fun x77 => qix x66 500 (qlet (σ.1 39 x66.toNatClampNeg) (fun x85 => qix v4 6000 (qlet (fun (y137 : Int32) => (qix (x66 - (1 : Int32)) 500 (qlet (sI σ 39 (x66 - (1 : Int32)).toNatClampNeg y137) (fun σ137 => j138 (x66, σ137))))) (fun j137 => (if (σ.1 19 v4.toNatClampNeg) = (2 : Int32) then (j137 (x77 + x85)) else (qix v4 6000 (if (σ.1 19 v4.toNatClampNeg) = (3 : Int32) then (j137 (x77 - x85)) else (j137 (x77 * x85))))))))))))) else (qix v4 6000 (qlet (fun (y59 : Int32) => (qix v3 500 (qlet (sI σ 39 v3.toNatClampNeg y59) (fun σ59 => qlet (v3 + (1 : Int32)) (fun x60 => j138 (x60, σ59)))))) (fun j59 => (if (σ.1 19 v4.toNatClampNeg) = (0 : Int32) then (qix v4 6000 (j59 (σ.1 20 v4.toNatClampNeg))) else (qix v4 6000 (qix (σ.1 20 v4.toNatClampNeg) 8 (j59 (σ.1 38 (σ.1 20 v4.toNatClampNeg).toNatClampNeg))))))))))))
def fX6_value (σ : St) (a1 : Int32) (a2 : Int32) : Option (Int32 × St) := fX6_value_L a1 a2 100000 (0 : Int32) a1 σ
set_option maxHeartbeats 4000000 in
set_option maxRecDepth 100000 in
theorem kX6_value_L {ad : Nat → Nat} {cy : Nat → ClassId} {X : va_W} {A : Nat → Prop} {D : va_G} {zs : Nat × Nat × Option Nat} {p : Program} {l : Launch} {e : Env} {s : State} {m : MethodId} {args : Array Value} {below : List Frame} {meth : Method} {c : Code} {a1 : Int32} {a2 : Int32} (C : qC ceM 42 ad cy X A D zs cX6_value 7 RX6 wsX6_value p s m args meth c (some .int)) (r0 : Int32) (σ0 : St) (n : Nat) : (∀ (v3 : Int32) (v4 : Int32) (σ : St), fX6_value_L a1 a2 n v3 v4 σ = some (r0, σ0) → qVi ceM 42 ad cy X A D p l e (headSpec wsX6_value rmX6_value).room s m args below meth c 7 r0 σ0 5 [(0, .ref (ad 0)), (2, .int a2), (3, .int v3), (4, .int v4)] [] σ) := by
  induction n with
  | zero =>
    intro v3 v4 σ h; cases h
  | succ n ih =>
    intro v3 v4 σ h
    rw [fX6_value_L] at h
    refine q_iload C dX6_value_5 3 rfl ?_
    refine q_iload_n C dX6_value_7 rfl 1 rfl ?_
    refine q_icmp_ge C (tgt := 144) dX6_value_8 (by decide) h (fun h => ?_) (fun h => ?_)
    · refine q_aload_n C dX6_value_144 rfl 0 rfl ?_
      refine q_get C (Cn := RX6) (T := TX6) (Nf := 60) (ci := 6) (id := 0) (k := 57) (v := .ref (ad 39)) nX6_value_X6 (by decide) (ceM_0 ad cy _ _ _) rfl (by decide) rfl hX6_value_137 dX6_value_145 ?_
      refine q_iconst C (v := 0) dX6_value_148 (by decide) ?_
      refine q_iald C (id := 39) (by decide) (ceM_39 ad cy _ _ _) dX6_value_149 h (fun h => ?_)
      exact q_iret C rfl dX6_value_150 h
    · refine q_aload_n C dX6_value_11 rfl 0 rfl ?_
      refine q_get C (Cn := RX6) (T := TX6) (Nf := 60) (ci := 6) (id := 0) (k := 31) (v := .ref (ad 19)) nX6_value_X6 (by decide) (ceM_0 ad cy _ _ _) rfl (by decide) rfl hX6_value_74 dX6_value_12 ?_
      refine q_iload C dX6_value_15 3 rfl ?_
      refine q_iald C (id := 19) (by decide) (ceM_19 ad cy _ _ _) dX6_value_17 h (fun h => ?_)
      refine q_iconst C (v := 2) dX6_value_18 (by decide) ?_
      refine q_join (G := fun (y138 : Int32 × St) => qVi ceM 42 ad cy X A D p l e (headSpec wsX6_value rmX6_value).room s m args below meth c 7 r0 σ0 138 [(0, .ref (ad 0)), (2, .int a2), (3, .int y138.1), (4, .int v4)] [] y138.2) h (fun y138 h => ?_) (fun j138 hj138 h => ?_)
      · refine q_iincL C dX6_value_138 3 rfl (by decide) (nv := 1) (by decide) h (lw := fun x138 => [(0, .ref (ad 0)), (2, .int a2), (3, .int y138.1), (4, .int x138)]) (fun _ => rfl) (fun x138 h => ?_)
        refine q_goto C (tgt := 5) dX6_value_141 (by decide) ?_
        exact q_sub [0, 1, 2, 3] rfl (ih y138.1 x138 y138.2 h)
      refine q_icmp_ge C (tgt := 66) dX6_value_19 (by decide) h (fun h => ?_) (fun h => ?_)
      · refine q_iincL C dX6_value_66 2 rfl (by decide) (nv := -1) (by decide) h (lw := fun x66 => [(0, .ref (ad 0)), (2, .int a2), (3, .int x66), (4, .int v4)]) (fun _ => rfl) (fun x66 h => ?_)
        refine q_aload_n C dX6_value_69 rfl 0 rfl ?_
        refine q_get C (Cn := RX6) (T := TX6) (Nf := 60) (ci := 6) (id := 0) (k := 57) (v := .ref (ad 39)) nX6_value_X6 (by decide) (ceM_0 ad cy _ _ _) rfl (by decide) rfl hX6_value_137 dX6_value_70 ?_
        refine q_iload_n C dX6_value_73 rfl 2 rfl ?_
        refine q_iconst C (v := 1) dX6_value_74 (by decide) ?_
        refine q_isub C dX6_value_75 ?_
        refine q_iald C (id := 39) (by decide) (ceM_39 ad cy _ _ _) dX6_value_76 h (fun h => ?_)
        refine q_istoreL C dX6_value_77 (by decide) h (lw := fun x77 => [(0, .ref (ad 0)), (2, .int a2), (3, .int x66), (4, .int v4), (5, .int x77)]) (fun _ => rfl) (fun x77 h => ?_)
        refine q_aload_n C dX6_value_79 rfl 0 rfl ?_
        refine q_get C (Cn := RX6) (T := TX6) (Nf := 60) (ci := 6) (id := 0) (k := 57) (v := .ref (ad 39)) nX6_value_X6 (by decide) (ceM_0 ad cy _ _ _) rfl (by decide) rfl hX6_value_137 dX6_value_80 ?_
        refine q_iload_n C dX6_value_83 rfl 2 rfl ?_
        refine q_iald C (id := 39) (by decide) (ceM_39 ad cy _ _ _) dX6_value_84 h (fun h => ?_)
        refine q_istoreL C dX6_value_85 (by decide) h (lw := fun x85 => [(0, .ref (ad 0)), (2, .int a2), (3, .int x66), (4, .int v4), (5, .int x77), (6, .int x85)]) (fun _ => rfl) (fun x85 h => ?_)
        refine q_aload_n C dX6_value_87 rfl 0 rfl ?_
        refine q_get C (Cn := RX6) (T := TX6) (Nf := 60) (ci := 6) (id := 0) (k := 57) (v := .ref (ad 39)) nX6_value_X6 (by decide) (ceM_0 ad cy _ _ _) rfl (by decide) rfl hX6_value_137 dX6_value_88 ?_
        refine q_iload_n C dX6_value_91 rfl 2 rfl ?_
        refine q_iconst C (v := 1) dX6_value_92 (by decide) ?_
        refine q_isub C dX6_value_93 ?_
        refine q_aload_n C dX6_value_94 rfl 0 rfl ?_
        refine q_get C (Cn := RX6) (T := TX6) (Nf := 60) (ci := 6) (id := 0) (k := 31) (v := .ref (ad 19)) nX6_value_X6 (by decide) (ceM_0 ad cy _ _ _) rfl (by decide) rfl hX6_value_74 dX6_value_95 ?_
        refine q_iload C dX6_value_98 3 rfl ?_
        refine q_iald C (id := 19) (by decide) (ceM_19 ad cy _ _ _) dX6_value_100 h (fun h => ?_)
        refine q_iconst C (v := 2) dX6_value_101 (by decide) ?_
        refine q_join (G := fun (y137 : Int32) => qVi ceM 42 ad cy X A D p l e (headSpec wsX6_value rmX6_value).room s m args below meth c 7 r0 σ0 137 [(0, .ref (ad 0)), (2, .int a2), (3, .int x66), (4, .int v4)] [.int y137, .int (x66 - (1 : Int32)), .ref (ad 39)] σ) h (fun y137 h => ?_) (fun j137 hj137 h => ?_)
        · refine q_iast C (id := 39) (by decide) (fun f g => ceM_39 ad cy _ f g) dX6_value_137 h (fun σ137 h => ?_)
          exact q_sub [0, 1, 2, 3] rfl (hj138 (x66, σ137) h)
        refine q_icmp_ne C (tgt := 113) dX6_value_102 (by decide) h (fun h => ?_) (fun h => ?_)
        · refine q_aload_n C dX6_value_113 rfl 0 rfl ?_
          refine q_get C (Cn := RX6) (T := TX6) (Nf := 60) (ci := 6) (id := 0) (k := 31) (v := .ref (ad 19)) nX6_value_X6 (by decide) (ceM_0 ad cy _ _ _) rfl (by decide) rfl hX6_value_74 dX6_value_114 ?_
          refine q_iload C dX6_value_117 3 rfl ?_
          refine q_iald C (id := 19) (by decide) (ceM_19 ad cy _ _ _) dX6_value_119 h (fun h => ?_)
          refine q_iconst C (v := 3) dX6_value_120 (by decide) ?_
          refine q_icmp_ne C (tgt := 132) dX6_value_121 (by decide) h (fun h => ?_) (fun h => ?_)
          · refine q_iload C dX6_value_132 4 rfl ?_
            refine q_iload C dX6_value_134 5 rfl ?_
            refine q_imul C dX6_value_136 ?_
            exact q_sub [0, 1, 2, 3] rfl (hj137 (x77 * x85) h)
          · refine q_iload C dX6_value_124 4 rfl ?_
            refine q_iload C dX6_value_126 5 rfl ?_
            refine q_isub C dX6_value_128 ?_
            refine q_goto C (tgt := 137) dX6_value_129 (by decide) ?_
            exact q_sub [0, 1, 2, 3] rfl (hj137 (x77 - x85) h)
        · refine q_iload C dX6_value_105 4 rfl ?_
          refine q_iload C dX6_value_107 5 rfl ?_
          refine q_iadd C dX6_value_109 ?_
          refine q_goto C (tgt := 137) dX6_value_110 (by decide) ?_
          exact q_sub [0, 1, 2, 3] rfl (hj137 (x77 + x85) h)
      · refine q_aload_n C dX6_value_22 rfl 0 rfl ?_
        refine q_get C (Cn := RX6) (T := TX6) (Nf := 60) (ci := 6) (id := 0) (k := 57) (v := .ref (ad 39)) nX6_value_X6 (by decide) (ceM_0 ad cy _ _ _) rfl (by decide) rfl hX6_value_137 dX6_value_23 ?_
        refine q_iload_n C dX6_value_26 rfl 2 rfl ?_
        refine q_aload_n C dX6_value_27 rfl 0 rfl ?_
        refine q_get C (Cn := RX6) (T := TX6) (Nf := 60) (ci := 6) (id := 0) (k := 31) (v := .ref (ad 19)) nX6_value_X6 (by decide) (ceM_0 ad cy _ _ _) rfl (by decide) rfl hX6_value_74 dX6_value_28 ?_
        refine q_iload C dX6_value_31 3 rfl ?_
        refine q_iald C (id := 19) (by decide) (ceM_19 ad cy _ _ _) dX6_value_33 h (fun h => ?_)
        refine q_join (G := fun (y59 : Int32) => qVi ceM 42 ad cy X A D p l e (headSpec wsX6_value rmX6_value).room s m args below meth c 7 r0 σ0 59 [(0, .ref (ad 0)), (2, .int a2), (3, .int v3), (4, .int v4)] [.int y59, .int v3, .ref (ad 39)] σ) h (fun y59 h => ?_) (fun j59 hj59 h => ?_)
        · refine q_iast C (id := 39) (by decide) (fun f g => ceM_39 ad cy _ f g) dX6_value_59 h (fun σ59 h => ?_)
          refine q_iincL C dX6_value_60 2 rfl (by decide) (nv := 1) (by decide) h (lw := fun x60 => [(0, .ref (ad 0)), (2, .int a2), (3, .int x60), (4, .int v4)]) (fun _ => rfl) (fun x60 h => ?_)
          refine q_goto C (tgt := 138) dX6_value_63 (by decide) ?_
          exact q_sub [0, 1, 2, 3] rfl (hj138 (x60, σ59) h)
        refine q_if_ne C (tgt := 47) dX6_value_34 (by decide) h (fun h => ?_) (fun h => ?_)
        · refine q_aload_n C dX6_value_47 rfl 0 rfl ?_
          refine q_get C (Cn := RX6) (T := TX6) (Nf := 60) (ci := 6) (id := 0) (k := 56) (v := .ref (ad 38)) nX6_value_X6 (by decide) (ceM_0 ad cy _ _ _) rfl (by decide) rfl hX6_value_134 dX6_value_48 ?_
          refine q_aload_n C dX6_value_51 rfl 0 rfl ?_
          refine q_get C (Cn := RX6) (T := TX6) (Nf := 60) (ci := 6) (id := 0) (k := 32) (v := .ref (ad 20)) nX6_value_X6 (by decide) (ceM_0 ad cy _ _ _) rfl (by decide) rfl hX6_value_77 dX6_value_52 ?_
          refine q_iload C dX6_value_55 3 rfl ?_
          refine q_iald C (id := 20) (by decide) (ceM_20 ad cy _ _ _) dX6_value_57 h (fun h => ?_)
          refine q_iald C (id := 38) (by decide) (ceM_38 ad cy _ _ _) dX6_value_58 h (fun h => ?_)
          exact q_sub [0, 1, 2, 3] rfl (hj59 (σ.1 38 (σ.1 20 v4.toNatClampNeg).toNatClampNeg) h)
        · refine q_aload_n C dX6_value_37 rfl 0 rfl ?_
          refine q_get C (Cn := RX6) (T := TX6) (Nf := 60) (ci := 6) (id := 0) (k := 32) (v := .ref (ad 20)) nX6_value_X6 (by decide) (ceM_0 ad cy _ _ _) rfl (by decide) rfl hX6_value_77 dX6_value_38 ?_
          refine q_iload C dX6_value_41 3 rfl ?_
          refine q_iald C (id := 20) (by decide) (ceM_20 ad cy _ _ _) dX6_value_43 h (fun h => ?_)
          refine q_goto C (tgt := 59) dX6_value_44 (by decide) ?_
          exact q_sub [0, 1, 2, 3] rfl (hj59 (σ.1 20 v4.toNatClampNeg) h)
set_option maxHeartbeats 4000000 in
set_option maxRecDepth 100000 in
theorem kX6_value (l : Launch) (D : va_G) (ad : Nat → Nat) (cy : Nat → ClassId) (X : va_W) (A : Nat → Prop) (zs : Nat × Nat × Option Nat) (σ : St) (a1 : Int32) (a2 : Int32) (r0 : Int32) (σ0 : St) (h : fX6_value σ a1 a2 = some (r0, σ0)) : Met l yX6_value wsX6_value rmX6_value (qPc ceM 42 ad cy X A D zs [.ref (ad 0), .int a1, .int a2] σ) (qQi ceM 42 ad cy X A D r0 σ0) 0 0 A := by
  refine Met.ofW (cc := cX6_value) (maxL := 7) (ret := (some .int)) (by decide) rfl ?_
  intro p e s m args below meth c s₁ B hml hv
  obtain ⟨ha, hP, hK, hE, hD⟩ := hv
  have C : qC ceM 42 ad cy X A D zs cX6_value 7 RX6 wsX6_value p s m args meth c (some .int) := ⟨B.exec, B.bytes, hml, findClass_of_methodNamed B.named, atoms_spec (ws := wsX6_value) B.pre, hK, hD, B.returns, B.notSynchronized, hE⟩
  rw [show entryFrame m args 7 = entryFrame m ([.ref (ad 0), .int a1, .int a2] : List Value).toArray 7 by rw [ha]]
  refine q_entry (A := A) (Nat.le_of_ble_eq_true rfl) hP (lv := [(0, .ref (ad 0)), (1, .int a1), (2, .int a2)]) rfl ?_
  unfold fX6_value at h
  refine q_iconst C (v := 0) dX6_value_0 (by decide) ?_
  refine q_istore_n C dX6_value_1 rfl (by decide) (lv' := [(0, .ref (ad 0)), (1, .int a1), (2, .int a2), (3, .int (0 : Int32))]) rfl ?_
  refine q_iload_n C dX6_value_2 rfl 1 rfl ?_
  refine q_istore C dX6_value_3 (by decide) (lv' := [(0, .ref (ad 0)), (1, .int a1), (2, .int a2), (3, .int (0 : Int32)), (4, .int a1)]) rfl ?_
  exact q_sub [0, 2, 3, 4] rfl ((kX6_value_L C r0 σ0 100000) (0 : Int32) a1 σ h)
abbrev rmX6_holds : Room := { frames := 1, cells := 0, slots := 0, locals := 26 }
theorem hyX6_holds : yX6_holds.cls = RX6 ∧ yX6_holds.cls ≠ "java/lang/invoke/MethodHandle" ∧ yX6_holds.cls ≠ "java/lang/invoke/VarHandle" ∧ (parseMethodDescriptor yX6_holds.desc).map (fun d => d.parameters.length) = some 2 := by decide +kernel
theorem nX6_holds_X6 : ∀ w ∈ u_ws RX6 TX6 60, w ∈ wsX6_holds := by decide +kernel
theorem hX6_holds_49 : Cond.fieldLink RX6 49 (TX6 22).1 (TX6 22).2.1 (TX6 22).2.2.1 ∈ wsX6_holds := by decide +kernel
theorem hX6_holds_52 : Cond.fieldLink RX6 52 (TX6 23).1 (TX6 23).2.1 (TX6 23).2.2.1 ∈ wsX6_holds := by decide +kernel
theorem hX6_holds_70 : Cond.fieldLink RX6 70 (TX6 29).1 (TX6 29).2.1 (TX6 29).2.2.1 ∈ wsX6_holds := by decide +kernel
theorem hX6_holds_61 : Cond.fieldLink RX6 61 (TX6 26).1 (TX6 26).2.1 (TX6 26).2.2.1 ∈ wsX6_holds := by decide +kernel
theorem hX6_holds_64 : Cond.fieldLink RX6 64 (TX6 27).1 (TX6 27).2.1 (TX6 27).2.2.1 ∈ wsX6_holds := by decide +kernel
theorem hX6_holds_67 : Cond.fieldLink RX6 67 (TX6 28).1 (TX6 28).2.1 (TX6 28).2.2.1 ∈ wsX6_holds := by decide +kernel
theorem hX6_holds_58 : Cond.fieldLink RX6 58 (TX6 25).1 (TX6 25).2.1 (TX6 25).2.2.1 ∈ wsX6_holds := by decide +kernel
def fX6_holds_L (a1 : Int32) (a2 : Int32) : Nat → Int32 → Int32 → St → Option (Int32 × St)
  | 0, _, _, _ => none
  | n + 1, v3, v4, σ => qix a1 144 (if (σ.1 12 a1.toNatClampNeg) ≤ v4 then (qzz v3 (some (v3, σ))) else (qlet (((200 : Int32) * a2) + v4) (fun x29 => qix x29 2400 (qlet (fun (y47 : Unit) => (qix x29 2400 (qlet (fun (y59 : Int32) => (qlet (fun (y196 : Int32 × St) => (qlet (v4 + (1 : Int32)) (fun x196 => fX6_holds_L a1 a2 n y196.1 x196 y196.2))) (fun j196 => (if y59 = (0 : Int32) then (j196 (y59, σ)) else (qix x29 2400 (qix x29 2400 (qcall (fX6_value σ (σ.1 15 x29.toNatClampNeg) (σ.1 16 x29.toNatClampNeg)) (fun r81 σ81 => qix x29 2400 (qix x29 2400 (qcall (fX6_value σ81 (σ81.1 16 x29.toNatClampNeg) (σ81.1 17 x29.toNatClampNeg)) (fun r101 σ101 => qix x29 2400 (qlet (fun (y195 : Int32) => (j196 (y195, σ101))) (fun j195 => (if (σ101.1 14 x29.toNatClampNeg) = (0 : Int32) then (if r81 = r101 then (j195 (1 : Int32)) else (j195 (0 : Int32))) else (qix x29 2400 (if (σ101.1 14 x29.toNatClampNeg) = (1 : Int32) then (if r81 = r101 then (j195 (0 : Int32)) else (j195 (1 : Int32))) else (qix x29 2400 (if (σ101.1 14 x29.toNatClampNeg) = (2 : Int32) then (if r101 ≤ r81 then (j195 (0 : Int32)) else (j195 (1 : Int32))) else (if r101 < r81 then (j195 (0 : Int32)) else (j195 (1 : Int32))))))))))))))))))))) (fun j59 => (if (σ.1 18 x29.toNatClampNeg) = (0 : Int32) then (j59 v3) else (j59 (1 : Int32))))))) (fun j47 => (if (σ.1 18 x29.toNatClampNeg) = (0 : Int32) then (j47 ()) else (if v3 = (0 : Int32) then (j47 ()) else (qzz (1 : Int32) (some ((1 : Int32), σ))))))))))
def fX6_holds (σ : St) (a1 : Int32) (a2 : Int32) : Option (Int32 × St) := qix a1 144 (qlet (σ.1 11 a1.toNatClampNeg) (fun x8 => fX6_holds_L a1 a2 100000 (0 : Int32) x8 σ))
set_option maxHeartbeats 4000000 in
set_option maxRecDepth 100000 in
theorem kX6_holds_L {ad : Nat → Nat} {cy : Nat → ClassId} {X : va_W} {A : Nat → Prop} {D : va_G} {zs : Nat × Nat × Option Nat} {p : Program} {l : Launch} {e : Env} {s : State} {m : MethodId} {args : Array Value} {below : List Frame} {meth : Method} {c : Code} {a1 : Int32} {a2 : Int32} (C : qC ceM 42 ad cy X A D zs cX6_holds 8 RX6 wsX6_holds p s m args meth c (some .boolean)) (r0 : Int32) (σ0 : St) (n : Nat) : (∀ (v3 : Int32) (v4 : Int32) (σ : St), fX6_holds_L a1 a2 n v3 v4 σ = some (r0, σ0) → qVi ceM 42 ad cy X A D p l e (headSpec wsX6_holds rmX6_holds).room s m args below meth c 8 r0 σ0 10 [(0, .ref (ad 0)), (1, .int a1), (2, .int a2), (3, .int v3), (4, .int v4)] [] σ) := by
  induction n with
  | zero =>
    intro v3 v4 σ h; cases h
  | succ n ih =>
    intro v3 v4 σ h
    rw [fX6_holds_L] at h
    refine q_iload C dX6_holds_10 4 rfl ?_
    refine q_aload_n C dX6_holds_12 rfl 0 rfl ?_
    refine q_get C (Cn := RX6) (T := TX6) (Nf := 60) (ci := 6) (id := 0) (k := 23) (v := .ref (ad 12)) nX6_holds_X6 (by decide) (ceM_0 ad cy _ _ _) rfl (by decide) rfl hX6_holds_52 dX6_holds_13 ?_
    refine q_iload_n C dX6_holds_16 rfl 1 rfl ?_
    refine q_iald C (id := 12) (by decide) (ceM_12 ad cy _ _ _) dX6_holds_17 h (fun h => ?_)
    refine q_icmp_ge C (tgt := 202) dX6_holds_18 (by decide) h (fun h => ?_) (fun h => ?_)
    · refine q_iload_n C dX6_holds_202 rfl 3 rfl ?_
      exact q_zret C rfl dX6_holds_203 h
    · refine q_sipush C (v := 200) dX6_holds_21 (by decide) ?_
      refine q_iload_n C dX6_holds_24 rfl 2 rfl ?_
      refine q_imul C dX6_holds_25 ?_
      refine q_iload C dX6_holds_26 4 rfl ?_
      refine q_iadd C dX6_holds_28 ?_
      refine q_istoreL C dX6_holds_29 (by decide) h (lw := fun x29 => [(0, .ref (ad 0)), (1, .int a1), (2, .int a2), (3, .int v3), (4, .int v4), (5, .int x29)]) (fun _ => rfl) (fun x29 h => ?_)
      refine q_aload_n C dX6_holds_31 rfl 0 rfl ?_
      refine q_get C (Cn := RX6) (T := TX6) (Nf := 60) (ci := 6) (id := 0) (k := 29) (v := .ref (ad 18)) nX6_holds_X6 (by decide) (ceM_0 ad cy _ _ _) rfl (by decide) rfl hX6_holds_70 dX6_holds_32 ?_
      refine q_iload C dX6_holds_35 5 rfl ?_
      refine q_zald C (id := 18) (by decide) (ceM_18 ad cy _ _ _) dX6_holds_37 h (fun h => ?_)
      refine q_join (G := fun (y47 : Unit) => qVi ceM 42 ad cy X A D p l e (headSpec wsX6_holds rmX6_holds).room s m args below meth c 8 r0 σ0 47 [(0, .ref (ad 0)), (1, .int a1), (2, .int a2), (3, .int v3), (4, .int v4), (5, .int x29)] [] σ) h (fun y47 h => ?_) (fun j47 hj47 h => ?_)
      · refine q_aload_n C dX6_holds_47 rfl 0 rfl ?_
        refine q_get C (Cn := RX6) (T := TX6) (Nf := 60) (ci := 6) (id := 0) (k := 29) (v := .ref (ad 18)) nX6_holds_X6 (by decide) (ceM_0 ad cy _ _ _) rfl (by decide) rfl hX6_holds_70 dX6_holds_48 ?_
        refine q_iload C dX6_holds_51 5 rfl ?_
        refine q_zald C (id := 18) (by decide) (ceM_18 ad cy _ _ _) dX6_holds_53 h (fun h => ?_)
        refine q_join (G := fun (y59 : Int32) => qVi ceM 42 ad cy X A D p l e (headSpec wsX6_holds rmX6_holds).room s m args below meth c 8 r0 σ0 59 [(0, .ref (ad 0)), (1, .int a1), (2, .int a2), (3, .int y59), (4, .int v4), (5, .int x29)] [] σ) h (fun y59 h => ?_) (fun j59 hj59 h => ?_)
        · refine q_iload_n C dX6_holds_59 rfl 3 rfl ?_
          refine q_join (G := fun (y196 : Int32 × St) => qVi ceM 42 ad cy X A D p l e (headSpec wsX6_holds rmX6_holds).room s m args below meth c 8 r0 σ0 196 [(0, .ref (ad 0)), (1, .int a1), (2, .int a2), (3, .int y196.1), (4, .int v4)] [] y196.2) h (fun y196 h => ?_) (fun j196 hj196 h => ?_)
          · refine q_iincL C dX6_holds_196 4 rfl (by decide) (nv := 1) (by decide) h (lw := fun x196 => [(0, .ref (ad 0)), (1, .int a1), (2, .int a2), (3, .int y196.1), (4, .int x196)]) (fun _ => rfl) (fun x196 h => ?_)
            refine q_goto C (tgt := 10) dX6_holds_199 (by decide) ?_
            exact q_sub [0, 1, 2, 3, 4] rfl (ih y196.1 x196 y196.2 h)
          refine q_if_ne C (tgt := 66) dX6_holds_60 (by decide) h (fun h => ?_) (fun h => ?_)
          · refine q_aload_n C dX6_holds_66 rfl 0 rfl ?_
            refine q_aload_n C dX6_holds_67 rfl 0 rfl ?_
            refine q_get C (Cn := RX6) (T := TX6) (Nf := 60) (ci := 6) (id := 0) (k := 26) (v := .ref (ad 15)) nX6_holds_X6 (by decide) (ceM_0 ad cy _ _ _) rfl (by decide) rfl hX6_holds_61 dX6_holds_68 ?_
            refine q_iload C dX6_holds_71 5 rfl ?_
            refine q_iald C (id := 15) (by decide) (ceM_15 ad cy _ _ _) dX6_holds_73 h (fun h => ?_)
            refine q_aload_n C dX6_holds_74 rfl 0 rfl ?_
            refine q_get C (Cn := RX6) (T := TX6) (Nf := 60) (ci := 6) (id := 0) (k := 27) (v := .ref (ad 16)) nX6_holds_X6 (by decide) (ceM_0 ad cy _ _ _) rfl (by decide) rfl hX6_holds_64 dX6_holds_75 ?_
            refine q_iload C dX6_holds_78 5 rfl ?_
            refine q_iald C (id := 16) (by decide) (ceM_16 ad cy _ _ _) dX6_holds_80 h (fun h => ?_)
            refine q_callVi C (rm := rmX6_value) (As := [.int (σ.1 15 x29.toNatClampNeg), .int (σ.1 16 x29.toNatClampNeg)]) (rest := []) (id := 0) (ci := 6) (fun r9 σ9 h9 => kX6_value l D ad cy X A zs σ (σ.1 15 x29.toNatClampNeg) (σ.1 16 x29.toNatClampNeg) r9 σ9 h9) gX6_holds_X6_value rfl rfl rfl hyX6_value ⟨Nat.le_of_ble_eq_true rfl, Nat.le_of_ble_eq_true rfl⟩ (by decide) (ceM_0 ad cy _ _ _) rfl rfl rfl (Nat.le_of_ble_eq_true rfl) dX6_holds_81 ⟨Nat.zero_le _, Nat.zero_le _⟩ h (fun r81 σ81 h => ?_)
            refine q_istore C dX6_holds_84 (by decide) (lv' := [(0, .ref (ad 0)), (1, .int a1), (2, .int a2), (3, .int y59), (4, .int v4), (5, .int x29), (6, .int r81)]) rfl ?_
            refine q_aload_n C dX6_holds_86 rfl 0 rfl ?_
            refine q_aload_n C dX6_holds_87 rfl 0 rfl ?_
            refine q_get C (Cn := RX6) (T := TX6) (Nf := 60) (ci := 6) (id := 0) (k := 27) (v := .ref (ad 16)) nX6_holds_X6 (by decide) (ceM_0 ad cy _ _ _) rfl (by decide) rfl hX6_holds_64 dX6_holds_88 ?_
            refine q_iload C dX6_holds_91 5 rfl ?_
            refine q_iald C (id := 16) (by decide) (ceM_16 ad cy _ _ _) dX6_holds_93 h (fun h => ?_)
            refine q_aload_n C dX6_holds_94 rfl 0 rfl ?_
            refine q_get C (Cn := RX6) (T := TX6) (Nf := 60) (ci := 6) (id := 0) (k := 28) (v := .ref (ad 17)) nX6_holds_X6 (by decide) (ceM_0 ad cy _ _ _) rfl (by decide) rfl hX6_holds_67 dX6_holds_95 ?_
            refine q_iload C dX6_holds_98 5 rfl ?_
            refine q_iald C (id := 17) (by decide) (ceM_17 ad cy _ _ _) dX6_holds_100 h (fun h => ?_)
            refine q_callVi C (rm := rmX6_value) (As := [.int (σ81.1 16 x29.toNatClampNeg), .int (σ81.1 17 x29.toNatClampNeg)]) (rest := []) (id := 0) (ci := 6) (fun r9 σ9 h9 => kX6_value l D ad cy X A zs σ81 (σ81.1 16 x29.toNatClampNeg) (σ81.1 17 x29.toNatClampNeg) r9 σ9 h9) gX6_holds_X6_value rfl rfl rfl hyX6_value ⟨Nat.le_of_ble_eq_true rfl, Nat.le_of_ble_eq_true rfl⟩ (by decide) (ceM_0 ad cy _ _ _) rfl rfl rfl (Nat.le_of_ble_eq_true rfl) dX6_holds_101 ⟨Nat.zero_le _, Nat.zero_le _⟩ h (fun r101 σ101 h => ?_)
            refine q_istore C dX6_holds_104 (by decide) (lv' := [(0, .ref (ad 0)), (1, .int a1), (2, .int a2), (3, .int y59), (4, .int v4), (5, .int x29), (6, .int r81), (7, .int r101)]) rfl ?_
            refine q_aload_n C dX6_holds_106 rfl 0 rfl ?_
            refine q_get C (Cn := RX6) (T := TX6) (Nf := 60) (ci := 6) (id := 0) (k := 25) (v := .ref (ad 14)) nX6_holds_X6 (by decide) (ceM_0 ad cy _ _ _) rfl (by decide) rfl hX6_holds_58 dX6_holds_107 ?_
            refine q_iload C dX6_holds_110 5 rfl ?_
            refine q_iald C (id := 14) (by decide) (ceM_14 ad cy _ _ _) dX6_holds_112 h (fun h => ?_)
            refine q_join (G := fun (y195 : Int32) => qVi ceM 42 ad cy X A D p l e (headSpec wsX6_holds rmX6_holds).room s m args below meth c 8 r0 σ0 195 [(0, .ref (ad 0)), (1, .int a1), (2, .int a2), (4, .int v4)] [.int y195] σ101) h (fun y195 h => ?_) (fun j195 hj195 h => ?_)
            · refine q_istore_n C dX6_holds_195 rfl (by decide) (lv' := [(0, .ref (ad 0)), (1, .int a1), (2, .int a2), (3, .int y195), (4, .int v4)]) rfl ?_
              exact q_sub [0, 1, 2, 3, 4] rfl (hj196 (y195, σ101) h)
            refine q_if_ne C (tgt := 131) dX6_holds_113 (by decide) h (fun h => ?_) (fun h => ?_)
            · refine q_aload_n C dX6_holds_131 rfl 0 rfl ?_
              refine q_get C (Cn := RX6) (T := TX6) (Nf := 60) (ci := 6) (id := 0) (k := 25) (v := .ref (ad 14)) nX6_holds_X6 (by decide) (ceM_0 ad cy _ _ _) rfl (by decide) rfl hX6_holds_58 dX6_holds_132 ?_
              refine q_iload C dX6_holds_135 5 rfl ?_
              refine q_iald C (id := 14) (by decide) (ceM_14 ad cy _ _ _) dX6_holds_137 h (fun h => ?_)
              refine q_iconst C (v := 1) dX6_holds_138 (by decide) ?_
              refine q_icmp_ne C (tgt := 157) dX6_holds_139 (by decide) h (fun h => ?_) (fun h => ?_)
              · refine q_aload_n C dX6_holds_157 rfl 0 rfl ?_
                refine q_get C (Cn := RX6) (T := TX6) (Nf := 60) (ci := 6) (id := 0) (k := 25) (v := .ref (ad 14)) nX6_holds_X6 (by decide) (ceM_0 ad cy _ _ _) rfl (by decide) rfl hX6_holds_58 dX6_holds_158 ?_
                refine q_iload C dX6_holds_161 5 rfl ?_
                refine q_iald C (id := 14) (by decide) (ceM_14 ad cy _ _ _) dX6_holds_163 h (fun h => ?_)
                refine q_iconst C (v := 2) dX6_holds_164 (by decide) ?_
                refine q_icmp_ne C (tgt := 183) dX6_holds_165 (by decide) h (fun h => ?_) (fun h => ?_)
                · refine q_iload C dX6_holds_183 6 rfl ?_
                  refine q_iload C dX6_holds_185 7 rfl ?_
                  refine q_icmp_gt C (tgt := 194) dX6_holds_187 (by decide) h (fun h => ?_) (fun h => ?_)
                  · refine q_iconst C (v := 0) dX6_holds_194 (by decide) ?_
                    exact q_sub [0, 1, 2, 4] rfl (hj195 (0 : Int32) h)
                  · refine q_iconst C (v := 1) dX6_holds_190 (by decide) ?_
                    refine q_goto C (tgt := 195) dX6_holds_191 (by decide) ?_
                    exact q_sub [0, 1, 2, 4] rfl (hj195 (1 : Int32) h)
                · refine q_iload C dX6_holds_168 6 rfl ?_
                  refine q_iload C dX6_holds_170 7 rfl ?_
                  refine q_icmp_ge C (tgt := 179) dX6_holds_172 (by decide) h (fun h => ?_) (fun h => ?_)
                  · refine q_iconst C (v := 0) dX6_holds_179 (by decide) ?_
                    refine q_goto C (tgt := 195) dX6_holds_180 (by decide) ?_
                    exact q_sub [0, 1, 2, 4] rfl (hj195 (0 : Int32) h)
                  · refine q_iconst C (v := 1) dX6_holds_175 (by decide) ?_
                    refine q_goto C (tgt := 195) dX6_holds_176 (by decide) ?_
                    exact q_sub [0, 1, 2, 4] rfl (hj195 (1 : Int32) h)
              · refine q_iload C dX6_holds_142 6 rfl ?_
                refine q_iload C dX6_holds_144 7 rfl ?_
                refine q_icmp_eq C (tgt := 153) dX6_holds_146 (by decide) h (fun h => ?_) (fun h => ?_)
                · refine q_iconst C (v := 0) dX6_holds_153 (by decide) ?_
                  refine q_goto C (tgt := 195) dX6_holds_154 (by decide) ?_
                  exact q_sub [0, 1, 2, 4] rfl (hj195 (0 : Int32) h)
                · refine q_iconst C (v := 1) dX6_holds_149 (by decide) ?_
                  refine q_goto C (tgt := 195) dX6_holds_150 (by decide) ?_
                  exact q_sub [0, 1, 2, 4] rfl (hj195 (1 : Int32) h)
            · refine q_iload C dX6_holds_116 6 rfl ?_
              refine q_iload C dX6_holds_118 7 rfl ?_
              refine q_icmp_ne C (tgt := 127) dX6_holds_120 (by decide) h (fun h => ?_) (fun h => ?_)
              · refine q_iconst C (v := 0) dX6_holds_127 (by decide) ?_
                refine q_goto C (tgt := 195) dX6_holds_128 (by decide) ?_
                exact q_sub [0, 1, 2, 4] rfl (hj195 (0 : Int32) h)
              · refine q_iconst C (v := 1) dX6_holds_123 (by decide) ?_
                refine q_goto C (tgt := 195) dX6_holds_124 (by decide) ?_
                exact q_sub [0, 1, 2, 4] rfl (hj195 (1 : Int32) h)
          · refine q_goto C (tgt := 196) dX6_holds_63 (by decide) ?_
            exact q_sub [0, 1, 2, 3, 4] rfl (hj196 (y59, σ) h)
        refine q_if_eq C (tgt := 59) dX6_holds_54 (by decide) h (fun h => ?_) (fun h => ?_)
        · exact q_sub [0, 1, 2, 3, 4, 5] rfl (hj59 v3 h)
        · refine q_iconst C (v := 1) dX6_holds_57 (by decide) ?_
          refine q_istore_n C dX6_holds_58 rfl (by decide) (lv' := [(0, .ref (ad 0)), (1, .int a1), (2, .int a2), (3, .int (1 : Int32)), (4, .int v4), (5, .int x29)]) rfl ?_
          exact q_sub [0, 1, 2, 3, 4, 5] rfl (hj59 (1 : Int32) h)
      refine q_if_eq C (tgt := 47) dX6_holds_38 (by decide) h (fun h => ?_) (fun h => ?_)
      · exact q_sub [0, 1, 2, 3, 4, 5] rfl (hj47 () h)
      · refine q_iload_n C dX6_holds_41 rfl 3 rfl ?_
        refine q_if_eq C (tgt := 47) dX6_holds_42 (by decide) h (fun h => ?_) (fun h => ?_)
        · exact q_sub [0, 1, 2, 3, 4, 5] rfl (hj47 () h)
        · refine q_iconst C (v := 1) dX6_holds_45 (by decide) ?_
          exact q_zret C rfl dX6_holds_46 h
set_option maxHeartbeats 4000000 in
set_option maxRecDepth 100000 in
theorem kX6_holds (l : Launch) (D : va_G) (ad : Nat → Nat) (cy : Nat → ClassId) (X : va_W) (A : Nat → Prop) (zs : Nat × Nat × Option Nat) (σ : St) (a1 : Int32) (a2 : Int32) (r0 : Int32) (σ0 : St) (h : fX6_holds σ a1 a2 = some (r0, σ0)) : Met l yX6_holds wsX6_holds rmX6_holds (qPc ceM 42 ad cy X A D zs [.ref (ad 0), .int a1, .int a2] σ) (qQi ceM 42 ad cy X A D r0 σ0) 0 0 A := by
  refine Met.ofW (cc := cX6_holds) (maxL := 8) (ret := (some .boolean)) (by decide) rfl ?_
  intro p e s m args below meth c s₁ B hml hv
  obtain ⟨ha, hP, hK, hE, hD⟩ := hv
  have C : qC ceM 42 ad cy X A D zs cX6_holds 8 RX6 wsX6_holds p s m args meth c (some .boolean) := ⟨B.exec, B.bytes, hml, findClass_of_methodNamed B.named, atoms_spec (ws := wsX6_holds) B.pre, hK, hD, B.returns, B.notSynchronized, hE⟩
  rw [show entryFrame m args 8 = entryFrame m ([.ref (ad 0), .int a1, .int a2] : List Value).toArray 8 by rw [ha]]
  refine q_entry (A := A) (Nat.le_of_ble_eq_true rfl) hP (lv := [(0, .ref (ad 0)), (1, .int a1), (2, .int a2)]) rfl ?_
  unfold fX6_holds at h
  refine q_iconst C (v := 0) dX6_holds_0 (by decide) ?_
  refine q_istore_n C dX6_holds_1 rfl (by decide) (lv' := [(0, .ref (ad 0)), (1, .int a1), (2, .int a2), (3, .int (0 : Int32))]) rfl ?_
  refine q_aload_n C dX6_holds_2 rfl 0 rfl ?_
  refine q_get C (Cn := RX6) (T := TX6) (Nf := 60) (ci := 6) (id := 0) (k := 22) (v := .ref (ad 11)) nX6_holds_X6 (by decide) (ceM_0 ad cy _ _ _) rfl (by decide) rfl hX6_holds_49 dX6_holds_3 ?_
  refine q_iload_n C dX6_holds_6 rfl 1 rfl ?_
  refine q_iald C (id := 11) (by decide) (ceM_11 ad cy _ _ _) dX6_holds_7 h (fun h => ?_)
  refine q_istoreL C dX6_holds_8 (by decide) h (lw := fun x8 => [(0, .ref (ad 0)), (1, .int a1), (2, .int a2), (3, .int (0 : Int32)), (4, .int x8)]) (fun _ => rfl) (fun x8 h => ?_)
  exact q_sub [0, 1, 2, 3, 4] rfl ((kX6_holds_L C r0 σ0 100000) (0 : Int32) x8 σ h)
abbrev rmX6_ruleOf : Room := { frames := 2, cells := 0, slots := 0, locals := 53 }
theorem hyX6_ruleOf : yX6_ruleOf.cls = RX6 ∧ yX6_ruleOf.cls ≠ "java/lang/invoke/MethodHandle" ∧ yX6_ruleOf.cls ≠ "java/lang/invoke/VarHandle" ∧ (parseMethodDescriptor yX6_ruleOf.desc).map (fun d => d.parameters.length) = some 2 := by decide +kernel
theorem nX6_ruleOf_X6 : ∀ w ∈ u_ws RX6 TX6 60, w ∈ wsX6_ruleOf := by decide +kernel
theorem hX6_ruleOf_40 : Cond.fieldLink RX6 40 (TX6 18).1 (TX6 18).2.1 (TX6 18).2.2.1 ∈ wsX6_ruleOf := by decide +kernel
theorem hX6_ruleOf_43 : Cond.fieldLink RX6 43 (TX6 20).1 (TX6 20).2.1 (TX6 20).2.2.1 ∈ wsX6_ruleOf := by decide +kernel
theorem hX6_ruleOf_46 : Cond.fieldLink RX6 46 (TX6 21).1 (TX6 21).2.1 (TX6 21).2.2.1 ∈ wsX6_ruleOf := by decide +kernel
def fX6_ruleOf_L (a1 : Int32) (a2 : Int32) : Nat → Int32 → Int32 → St → Option (Int32 × St)
  | 0, _, _, _ => none
  | n + 1, v3, v4, σ => qix v3 12 (if (σ.1 9 v3.toNatClampNeg) ≤ v4 then (some ((-1 : Int32), σ)) else (qix (((12 : Int32) * v3) + v4) 144 (qlet (fun (y59 : St) => (qlet (v4 + (1 : Int32)) (fun x59 => fX6_ruleOf_L a1 a2 n v3 x59 y59))) (fun j59 => (if (σ.1 10 (((12 : Int32) * v3) + v4).toNatClampNeg) = a2 then (qcall (fX6_holds σ (((12 : Int32) * v3) + v4) v3) (fun r50 σ50 => if r50 = (0 : Int32) then (j59 σ50) else (some (v4, σ50)))) else (j59 σ))))))
def fX6_ruleOf (σ : St) (a1 : Int32) (a2 : Int32) : Option (Int32 × St) := qix a1 6 (qlet (((2 : Int32) * a1) + (σ.1 8 a1.toNatClampNeg)) (fun x10 => fX6_ruleOf_L a1 a2 100000 x10 (0 : Int32) σ))
set_option maxHeartbeats 4000000 in
set_option maxRecDepth 100000 in
theorem kX6_ruleOf_L {ad : Nat → Nat} {cy : Nat → ClassId} {X : va_W} {A : Nat → Prop} {D : va_G} {zs : Nat × Nat × Option Nat} {p : Program} {l : Launch} {e : Env} {s : State} {m : MethodId} {args : Array Value} {below : List Frame} {meth : Method} {c : Code} {a1 : Int32} {a2 : Int32} (C : qC ceM 42 ad cy X A D zs cX6_ruleOf 5 RX6 wsX6_ruleOf p s m args meth c (some .int)) (r0 : Int32) (σ0 : St) (n : Nat) : (∀ (v3 : Int32) (v4 : Int32) (σ : St), fX6_ruleOf_L a1 a2 n v3 v4 σ = some (r0, σ0) → qVi ceM 42 ad cy X A D p l e (headSpec wsX6_ruleOf rmX6_ruleOf).room s m args below meth c 5 r0 σ0 14 [(0, .ref (ad 0)), (2, .int a2), (3, .int v3), (4, .int v4)] [] σ) := by
  induction n with
  | zero =>
    intro v3 v4 σ h; cases h
  | succ n ih =>
    intro v3 v4 σ h
    rw [fX6_ruleOf_L] at h
    refine q_iload C dX6_ruleOf_14 3 rfl ?_
    refine q_aload_n C dX6_ruleOf_16 rfl 0 rfl ?_
    refine q_get C (Cn := RX6) (T := TX6) (Nf := 60) (ci := 6) (id := 0) (k := 20) (v := .ref (ad 9)) nX6_ruleOf_X6 (by decide) (ceM_0 ad cy _ _ _) rfl (by decide) rfl hX6_ruleOf_43 dX6_ruleOf_17 ?_
    refine q_iload_n C dX6_ruleOf_20 rfl 2 rfl ?_
    refine q_iald C (id := 9) (by decide) (ceM_9 ad cy _ _ _) dX6_ruleOf_21 h (fun h => ?_)
    refine q_icmp_ge C (tgt := 65) dX6_ruleOf_22 (by decide) h (fun h => ?_) (fun h => ?_)
    · refine q_iconst C (v := -1) dX6_ruleOf_65 (by decide) ?_
      exact q_iret C rfl dX6_ruleOf_66 h
    · refine q_aload_n C dX6_ruleOf_25 rfl 0 rfl ?_
      refine q_get C (Cn := RX6) (T := TX6) (Nf := 60) (ci := 6) (id := 0) (k := 21) (v := .ref (ad 10)) nX6_ruleOf_X6 (by decide) (ceM_0 ad cy _ _ _) rfl (by decide) rfl hX6_ruleOf_46 dX6_ruleOf_26 ?_
      refine q_bipush C (v := 12) dX6_ruleOf_29 (by decide) ?_
      refine q_iload_n C dX6_ruleOf_31 rfl 2 rfl ?_
      refine q_imul C dX6_ruleOf_32 ?_
      refine q_iload C dX6_ruleOf_33 3 rfl ?_
      refine q_iadd C dX6_ruleOf_35 ?_
      refine q_iald C (id := 10) (by decide) (ceM_10 ad cy _ _ _) dX6_ruleOf_36 h (fun h => ?_)
      refine q_iload_n C dX6_ruleOf_37 rfl 1 rfl ?_
      refine q_join (G := fun (y59 : St) => qVi ceM 42 ad cy X A D p l e (headSpec wsX6_ruleOf rmX6_ruleOf).room s m args below meth c 5 r0 σ0 59 [(0, .ref (ad 0)), (2, .int a2), (3, .int v3), (4, .int v4)] [] y59) h (fun y59 h => ?_) (fun j59 hj59 h => ?_)
      · refine q_iincL C dX6_ruleOf_59 3 rfl (by decide) (nv := 1) (by decide) h (lw := fun x59 => [(0, .ref (ad 0)), (2, .int a2), (3, .int v3), (4, .int x59)]) (fun _ => rfl) (fun x59 h => ?_)
        refine q_goto C (tgt := 14) dX6_ruleOf_62 (by decide) ?_
        exact q_sub [0, 1, 2, 3] rfl (ih v3 x59 y59 h)
      refine q_icmp_ne C (tgt := 59) dX6_ruleOf_38 (by decide) h (fun h => ?_) (fun h => ?_)
      · exact q_sub [0, 1, 2, 3] rfl (hj59 σ h)
      · refine q_aload_n C dX6_ruleOf_41 rfl 0 rfl ?_
        refine q_bipush C (v := 12) dX6_ruleOf_42 (by decide) ?_
        refine q_iload_n C dX6_ruleOf_44 rfl 2 rfl ?_
        refine q_imul C dX6_ruleOf_45 ?_
        refine q_iload C dX6_ruleOf_46 3 rfl ?_
        refine q_iadd C dX6_ruleOf_48 ?_
        refine q_iload_n C dX6_ruleOf_49 rfl 2 rfl ?_
        refine q_callVi C (rm := rmX6_holds) (As := [.int (((12 : Int32) * v3) + v4), .int v3]) (rest := []) (id := 0) (ci := 6) (fun r9 σ9 h9 => kX6_holds l D ad cy X A zs σ (((12 : Int32) * v3) + v4) v3 r9 σ9 h9) gX6_ruleOf_X6_holds rfl rfl rfl hyX6_holds ⟨Nat.le_of_ble_eq_true rfl, Nat.le_of_ble_eq_true rfl⟩ (by decide) (ceM_0 ad cy _ _ _) rfl rfl rfl (Nat.le_of_ble_eq_true rfl) dX6_ruleOf_50 ⟨Nat.zero_le _, Nat.zero_le _⟩ h (fun r50 σ50 h => ?_)
        refine q_if_eq C (tgt := 59) dX6_ruleOf_53 (by decide) h (fun h => ?_) (fun h => ?_)
        · exact q_sub [0, 1, 2, 3] rfl (hj59 σ50 h)
        · refine q_iload C dX6_ruleOf_56 3 rfl ?_
          exact q_iret C rfl dX6_ruleOf_58 h
set_option maxHeartbeats 4000000 in
set_option maxRecDepth 100000 in
theorem kX6_ruleOf (l : Launch) (D : va_G) (ad : Nat → Nat) (cy : Nat → ClassId) (X : va_W) (A : Nat → Prop) (zs : Nat × Nat × Option Nat) (σ : St) (a1 : Int32) (a2 : Int32) (r0 : Int32) (σ0 : St) (h : fX6_ruleOf σ a1 a2 = some (r0, σ0)) : Met l yX6_ruleOf wsX6_ruleOf rmX6_ruleOf (qPc ceM 42 ad cy X A D zs [.ref (ad 0), .int a1, .int a2] σ) (qQi ceM 42 ad cy X A D r0 σ0) 0 0 A := by
  refine Met.ofW (cc := cX6_ruleOf) (maxL := 5) (ret := (some .int)) (by decide) rfl ?_
  intro p e s m args below meth c s₁ B hml hv
  obtain ⟨ha, hP, hK, hE, hD⟩ := hv
  have C : qC ceM 42 ad cy X A D zs cX6_ruleOf 5 RX6 wsX6_ruleOf p s m args meth c (some .int) := ⟨B.exec, B.bytes, hml, findClass_of_methodNamed B.named, atoms_spec (ws := wsX6_ruleOf) B.pre, hK, hD, B.returns, B.notSynchronized, hE⟩
  rw [show entryFrame m args 5 = entryFrame m ([.ref (ad 0), .int a1, .int a2] : List Value).toArray 5 by rw [ha]]
  refine q_entry (A := A) (Nat.le_of_ble_eq_true rfl) hP (lv := [(0, .ref (ad 0)), (1, .int a1), (2, .int a2)]) rfl ?_
  unfold fX6_ruleOf at h
  refine q_iconst C (v := 2) dX6_ruleOf_0 (by decide) ?_
  refine q_iload_n C dX6_ruleOf_1 rfl 1 rfl ?_
  refine q_imul C dX6_ruleOf_2 ?_
  refine q_aload_n C dX6_ruleOf_3 rfl 0 rfl ?_
  refine q_get C (Cn := RX6) (T := TX6) (Nf := 60) (ci := 6) (id := 0) (k := 18) (v := .ref (ad 8)) nX6_ruleOf_X6 (by decide) (ceM_0 ad cy _ _ _) rfl (by decide) rfl hX6_ruleOf_40 dX6_ruleOf_4 ?_
  refine q_iload_n C dX6_ruleOf_7 rfl 1 rfl ?_
  refine q_iald C (id := 8) (by decide) (ceM_8 ad cy _ _ _) dX6_ruleOf_8 h (fun h => ?_)
  refine q_iadd C dX6_ruleOf_9 ?_
  refine q_istore_nL C dX6_ruleOf_10 rfl (by decide) h (lw := fun x10 => [(0, .ref (ad 0)), (1, .int a1), (2, .int a2), (3, .int x10)]) (fun _ => rfl) (fun x10 h => ?_)
  refine q_iconst C (v := 0) dX6_ruleOf_11 (by decide) ?_
  refine q_istore C dX6_ruleOf_12 (by decide) (lv' := [(0, .ref (ad 0)), (1, .int a1), (2, .int a2), (3, .int x10), (4, .int (0 : Int32))]) rfl ?_
  exact q_sub [0, 2, 3, 4] rfl ((kX6_ruleOf_L C r0 σ0 100000) x10 (0 : Int32) σ h)
abbrev rmX6_adds : Room := { frames := 0, cells := 0, slots := 0, locals := 0 }
theorem hyX6_adds : yX6_adds.cls = RX6 ∧ yX6_adds.cls ≠ "java/lang/invoke/MethodHandle" ∧ yX6_adds.cls ≠ "java/lang/invoke/VarHandle" ∧ (parseMethodDescriptor yX6_adds.desc).map (fun d => d.parameters.length) = some 3 := by decide +kernel
theorem nX6_adds_X6 : ∀ w ∈ u_ws RX6 TX6 60, w ∈ wsX6_adds := by decide +kernel
theorem hX6_adds_116 : Cond.fieldLink RX6 116 (TX6 50).1 (TX6 50).2.1 (TX6 50).2.2.1 ∈ wsX6_adds := by decide +kernel
theorem hX6_adds_119 : Cond.fieldLink RX6 119 (TX6 51).1 (TX6 51).2.1 (TX6 51).2.2.1 ∈ wsX6_adds := by decide +kernel
theorem hX6_adds_122 : Cond.fieldLink RX6 122 (TX6 52).1 (TX6 52).2.1 (TX6 52).2.2.1 ∈ wsX6_adds := by decide +kernel
theorem hX6_adds_125 : Cond.fieldLink RX6 125 (TX6 53).1 (TX6 53).2.1 (TX6 53).2.2.1 ∈ wsX6_adds := by decide +kernel
theorem hX6_adds_128 : Cond.fieldLink RX6 128 (TX6 54).1 (TX6 54).2.1 (TX6 54).2.2.1 ∈ wsX6_adds := by decide +kernel
theorem hX6_adds_131 : Cond.fieldLink RX6 131 (TX6 55).1 (TX6 55).2.1 (TX6 55).2.2.1 ∈ wsX6_adds := by decide +kernel
def fX6_adds (σ : St) (a1 : Int32) (a2 : Int32) (a3 : Int32) : Option (Int32 × St) := qix a1 6 (if (σ.1 32 a1.toNatClampNeg) = (16 : Int32) then (some ((0 : Int32), σ)) else (qix a1 6 (qlet (((16 : Int32) * a1) + (σ.1 32 a1.toNatClampNeg)) (fun x23 => qix x23 96 (qlet (sI σ 33 x23.toNatClampNeg a2) (fun σ32 => qix x23 96 (qlet (sI σ32 34 x23.toNatClampNeg a3) (fun σ40 => qix x23 96 (qlet (sI σ40 35 x23.toNatClampNeg a2) (fun σ48 => qix x23 96 (qlet (sI σ48 36 x23.toNatClampNeg a2) (fun σ56 => qlet (fun (y74 : Int32) => (qix x23 96 (qlet (sI σ56 37 x23.toNatClampNeg (vp_nar .boolean y74)) (fun σ74 => qix a1 6 (qix a1 6 (qlet (sI σ74 32 a1.toNatClampNeg ((σ74.1 32 a1.toNatClampNeg) + (1 : Int32))) (fun σ84 => some ((0 : Int32), σ84)))))))) (fun j74 => (if a3 = (-2 : Int32) then (j74 (1 : Int32)) else (j74 (0 : Int32))))))))))))))))
set_option maxHeartbeats 4000000 in
set_option maxRecDepth 100000 in
theorem kX6_adds (l : Launch) (D : va_G) (ad : Nat → Nat) (cy : Nat → ClassId) (X : va_W) (A : Nat → Prop) (zs : Nat × Nat × Option Nat) (σ : St) (a1 : Int32) (a2 : Int32) (a3 : Int32) (r0 : Int32) (σ0 : St) (h : fX6_adds σ a1 a2 a3 = some (r0, σ0)) : Met l yX6_adds wsX6_adds rmX6_adds (qPc ceM 42 ad cy X A D zs [.ref (ad 0), .int a1, .int a2, .int a3] σ) (qQv ceM 42 ad cy X A D σ0) 0 0 A := by
  refine Met.ofW (cc := cX6_adds) (maxL := 5) (ret := none) (by decide) rfl ?_
  intro p e s m args below meth c s₁ B hml hv
  obtain ⟨ha, hP, hK, hE, hD⟩ := hv
  have C : qC ceM 42 ad cy X A D zs cX6_adds 5 RX6 wsX6_adds p s m args meth c none := ⟨B.exec, B.bytes, hml, findClass_of_methodNamed B.named, atoms_spec (ws := wsX6_adds) B.pre, hK, hD, B.returns, B.notSynchronized, hE⟩
  rw [show entryFrame m args 5 = entryFrame m ([.ref (ad 0), .int a1, .int a2, .int a3] : List Value).toArray 5 by rw [ha]]
  refine q_entry (A := A) (Nat.le_of_ble_eq_true rfl) hP (lv := [(0, .ref (ad 0)), (1, .int a1), (2, .int a2), (3, .int a3)]) rfl ?_
  unfold fX6_adds at h
  refine q_aload_n C dX6_adds_0 rfl 0 rfl ?_
  refine q_get C (Cn := RX6) (T := TX6) (Nf := 60) (ci := 6) (id := 0) (k := 50) (v := .ref (ad 32)) nX6_adds_X6 (by decide) (ceM_0 ad cy _ _ _) rfl (by decide) rfl hX6_adds_116 dX6_adds_1 ?_
  refine q_iload_n C dX6_adds_4 rfl 1 rfl ?_
  refine q_iald C (id := 32) (by decide) (ceM_32 ad cy _ _ _) dX6_adds_5 h (fun h => ?_)
  refine q_bipush C (v := 16) dX6_adds_6 (by decide) ?_
  refine q_icmp_ne C (tgt := 12) dX6_adds_8 (by decide) h (fun h => ?_) (fun h => ?_)
  · refine q_bipush C (v := 16) dX6_adds_12 (by decide) ?_
    refine q_iload_n C dX6_adds_14 rfl 1 rfl ?_
    refine q_imul C dX6_adds_15 ?_
    refine q_aload_n C dX6_adds_16 rfl 0 rfl ?_
    refine q_get C (Cn := RX6) (T := TX6) (Nf := 60) (ci := 6) (id := 0) (k := 50) (v := .ref (ad 32)) nX6_adds_X6 (by decide) (ceM_0 ad cy _ _ _) rfl (by decide) rfl hX6_adds_116 dX6_adds_17 ?_
    refine q_iload_n C dX6_adds_20 rfl 1 rfl ?_
    refine q_iald C (id := 32) (by decide) (ceM_32 ad cy _ _ _) dX6_adds_21 h (fun h => ?_)
    refine q_iadd C dX6_adds_22 ?_
    refine q_istoreL C dX6_adds_23 (by decide) h (lw := fun x23 => [(0, .ref (ad 0)), (1, .int a1), (2, .int a2), (3, .int a3), (4, .int x23)]) (fun _ => rfl) (fun x23 h => ?_)
    refine q_aload_n C dX6_adds_25 rfl 0 rfl ?_
    refine q_get C (Cn := RX6) (T := TX6) (Nf := 60) (ci := 6) (id := 0) (k := 51) (v := .ref (ad 33)) nX6_adds_X6 (by decide) (ceM_0 ad cy _ _ _) rfl (by decide) rfl hX6_adds_119 dX6_adds_26 ?_
    refine q_iload C dX6_adds_29 4 rfl ?_
    refine q_iload_n C dX6_adds_31 rfl 2 rfl ?_
    refine q_iast C (id := 33) (by decide) (fun f g => ceM_33 ad cy _ f g) dX6_adds_32 h (fun σ32 h => ?_)
    refine q_aload_n C dX6_adds_33 rfl 0 rfl ?_
    refine q_get C (Cn := RX6) (T := TX6) (Nf := 60) (ci := 6) (id := 0) (k := 52) (v := .ref (ad 34)) nX6_adds_X6 (by decide) (ceM_0 ad cy _ _ _) rfl (by decide) rfl hX6_adds_122 dX6_adds_34 ?_
    refine q_iload C dX6_adds_37 4 rfl ?_
    refine q_iload_n C dX6_adds_39 rfl 3 rfl ?_
    refine q_iast C (id := 34) (by decide) (fun f g => ceM_34 ad cy _ f g) dX6_adds_40 h (fun σ40 h => ?_)
    refine q_aload_n C dX6_adds_41 rfl 0 rfl ?_
    refine q_get C (Cn := RX6) (T := TX6) (Nf := 60) (ci := 6) (id := 0) (k := 53) (v := .ref (ad 35)) nX6_adds_X6 (by decide) (ceM_0 ad cy _ _ _) rfl (by decide) rfl hX6_adds_125 dX6_adds_42 ?_
    refine q_iload C dX6_adds_45 4 rfl ?_
    refine q_iload_n C dX6_adds_47 rfl 2 rfl ?_
    refine q_iast C (id := 35) (by decide) (fun f g => ceM_35 ad cy _ f g) dX6_adds_48 h (fun σ48 h => ?_)
    refine q_aload_n C dX6_adds_49 rfl 0 rfl ?_
    refine q_get C (Cn := RX6) (T := TX6) (Nf := 60) (ci := 6) (id := 0) (k := 54) (v := .ref (ad 36)) nX6_adds_X6 (by decide) (ceM_0 ad cy _ _ _) rfl (by decide) rfl hX6_adds_128 dX6_adds_50 ?_
    refine q_iload C dX6_adds_53 4 rfl ?_
    refine q_iload_n C dX6_adds_55 rfl 2 rfl ?_
    refine q_iast C (id := 36) (by decide) (fun f g => ceM_36 ad cy _ f g) dX6_adds_56 h (fun σ56 h => ?_)
    refine q_aload_n C dX6_adds_57 rfl 0 rfl ?_
    refine q_get C (Cn := RX6) (T := TX6) (Nf := 60) (ci := 6) (id := 0) (k := 55) (v := .ref (ad 37)) nX6_adds_X6 (by decide) (ceM_0 ad cy _ _ _) rfl (by decide) rfl hX6_adds_131 dX6_adds_58 ?_
    refine q_iload C dX6_adds_61 4 rfl ?_
    refine q_iload_n C dX6_adds_63 rfl 3 rfl ?_
    refine q_bipush C (v := -2) dX6_adds_64 (by decide) ?_
    refine q_join (G := fun (y74 : Int32) => qVv ceM 42 ad cy X A D p l e (headSpec wsX6_adds rmX6_adds).room s m args below meth c 5 r0 σ0 74 [(0, .ref (ad 0)), (1, .int a1)] [.int y74, .int x23, .ref (ad 37)] σ56) h (fun y74 h => ?_) (fun j74 hj74 h => ?_)
    · refine q_zast C (id := 37) (by decide) (fun f g => ceM_37 ad cy _ f g) dX6_adds_74 h (fun σ74 h => ?_)
      refine q_aload_n C dX6_adds_75 rfl 0 rfl ?_
      refine q_get C (Cn := RX6) (T := TX6) (Nf := 60) (ci := 6) (id := 0) (k := 50) (v := .ref (ad 32)) nX6_adds_X6 (by decide) (ceM_0 ad cy _ _ _) rfl (by decide) rfl hX6_adds_116 dX6_adds_76 ?_
      refine q_iload_n C dX6_adds_79 rfl 1 rfl ?_
      refine q_dup2 C dX6_adds_80 rfl rfl ?_
      refine q_iald C (id := 32) (by decide) (ceM_32 ad cy _ _ _) dX6_adds_81 h (fun h => ?_)
      refine q_iconst C (v := 1) dX6_adds_82 (by decide) ?_
      refine q_iadd C dX6_adds_83 ?_
      refine q_iast C (id := 32) (by decide) (fun f g => ceM_32 ad cy _ f g) dX6_adds_84 h (fun σ84 h => ?_)
      exact q_vret C (r0 := r0) rfl dX6_adds_85 h
    refine q_icmp_ne C (tgt := 73) dX6_adds_66 (by decide) h (fun h => ?_) (fun h => ?_)
    · refine q_iconst C (v := 0) dX6_adds_73 (by decide) ?_
      exact q_sub [0, 1] rfl (hj74 (0 : Int32) h)
    · refine q_iconst C (v := 1) dX6_adds_69 (by decide) ?_
      refine q_goto C (tgt := 74) dX6_adds_70 (by decide) ?_
      exact q_sub [0, 1] rfl (hj74 (1 : Int32) h)
  · exact q_vret C (r0 := r0) rfl dX6_adds_11 h
abbrev rmX6_evening : Room := { frames := 5, cells := 0, slots := 0, locals := 127 }
theorem hyX6_evening : yX6_evening.cls = RX6 ∧ yX6_evening.cls ≠ "java/lang/invoke/MethodHandle" ∧ yX6_evening.cls ≠ "java/lang/invoke/VarHandle" ∧ (parseMethodDescriptor yX6_evening.desc).map (fun d => d.parameters.length) = some 3 := by decide +kernel
theorem nX6_evening_X6 : ∀ w ∈ u_ws RX6 TX6 60, w ∈ wsX6_evening := fun w h => List.mem_cons_of_mem _ (List.mem_append_right _ h)
theorem hX6_evening_116 : Cond.fieldLink RX6 116 (TX6 50).1 (TX6 50).2.1 (TX6 50).2.2.1 ∈ wsX6_evening := by decide +kernel
theorem hX6_evening_89 : Cond.fieldLink RX6 89 (TX6 39).1 (TX6 39).2.1 (TX6 39).2.2.1 ∈ wsX6_evening := by decide +kernel
theorem hX6_evening_119 : Cond.fieldLink RX6 119 (TX6 51).1 (TX6 51).2.1 (TX6 51).2.2.1 ∈ wsX6_evening := by decide +kernel
theorem hX6_evening_131 : Cond.fieldLink RX6 131 (TX6 55).1 (TX6 55).2.1 (TX6 55).2.2.1 ∈ wsX6_evening := by decide +kernel
theorem hX6_evening_122 : Cond.fieldLink RX6 122 (TX6 52).1 (TX6 52).2.1 (TX6 52).2.2.1 ∈ wsX6_evening := by decide +kernel
theorem hX6_evening_125 : Cond.fieldLink RX6 125 (TX6 53).1 (TX6 53).2.1 (TX6 53).2.2.1 ∈ wsX6_evening := by decide +kernel
theorem hX6_evening_128 : Cond.fieldLink RX6 128 (TX6 54).1 (TX6 54).2.1 (TX6 54).2.2.1 ∈ wsX6_evening := by decide +kernel
def fX6_evening (σ : St) (a1 : Int32) (a2 : Int32) (a3 : Int32) : Option (Int32 × St) := qix a1 6 (if (σ.1 32 a1.toNatClampNeg) = (0 : Int32) then (qix a1 6 (qlet (fun (y26 : St) => (some ((0 : Int32), y26))) (fun j26 => (if a2 = (σ.1 24 a1.toNatClampNeg) then (qcall (fX6_adds σ a1 a2 (-1 : Int32)) (fun _ σ23 => j26 σ23)) else (j26 σ))))) else (qix a1 6 (qlet ((((16 : Int32) * a1) + (σ.1 32 a1.toNatClampNeg)) - (1 : Int32)) (fun x40 => qix x40 96 (qlet (a2 - (σ.1 33 x40.toNatClampNeg)) (fun x51 => qlet (fun (y236 : St) => (some ((0 : Int32), y236))) (fun j236 => (if x51 = (30 : Int32) then (qcall (fX6_adds σ a1 a2 (-2 : Int32)) (fun _ σ65 => j236 σ65)) else (if x51 = (29 : Int32) then (qix a1 6 (qcall (fX6_asks σ a1 a2 a2 (σ.1 32 a1.toNatClampNeg) a3) (fun _ σ89 => qcall (fX6_ruleOf σ89 a1 (0 : Int32)) (fun r95 σ95 => qlet (fun (y124 : St) => (j236 y124)) (fun j124 => (if r95 = (-1 : Int32) then (j124 σ95) else (qcall (fX6_ruleOf σ95 a1 (1 : Int32)) (fun r109 σ109 => if r109 = (-1 : Int32) then (qcall (fX6_adds σ109 a1 a2 r95) (fun _ σ121 => j124 σ121)) else (j124 σ109))))))))) else (if x51 < (1 : Int32) then (j236 σ) else (if (10 : Int32) < x51 then (j236 σ) else (qix x40 96 (if (σ.1 37 x40.toNatClampNeg) = (0 : Int32) then (j236 σ) else (qix x40 96 (qlet ((σ.1 33 x40.toNatClampNeg) - (1 : Int32)) (fun x159 => qix a1 6 (qcall (fX6_asks σ a1 a2 x159 ((σ.1 32 a1.toNatClampNeg) - (1 : Int32)) a3) (fun _ σ175 => qcall (fX6_ruleOf σ175 a1 (2 : Int32)) (fun r181 σ181 => if r181 = (-1 : Int32) then (some ((0 : Int32), σ181)) else (qix x40 96 (qlet (sI σ181 33 x40.toNatClampNeg x159) (fun σ201 => qix x40 96 (qlet (sI σ201 34 x40.toNatClampNeg r181) (fun σ210 => qix x40 96 (qlet (sI σ210 35 x40.toNatClampNeg a2) (fun σ218 => qix x40 96 (qlet (sI σ218 36 x40.toNatClampNeg x159) (fun σ227 => qix x40 96 (qlet (sI σ227 37 x40.toNatClampNeg (vp_nar .boolean (0 : Int32))) (fun σ235 => j236 σ235))))))))))))))))))))))))))))))
set_option maxHeartbeats 4000000 in
set_option maxRecDepth 100000 in
theorem kX6_evening (l : Launch) (D : va_G) (ad : Nat → Nat) (cy : Nat → ClassId) (X : va_W) (A : Nat → Prop) (zs : Nat × Nat × Option Nat) (σ : St) (a1 : Int32) (a2 : Int32) (a3 : Int32) (r0 : Int32) (σ0 : St) (h : fX6_evening σ a1 a2 a3 = some (r0, σ0)) : Met l yX6_evening wsX6_evening rmX6_evening (qPc ceM 42 ad cy X A D zs [.ref (ad 0), .int a1, .int a2, .int a3] σ) (qQv ceM 42 ad cy X A D σ0) 0 0 A := by
  refine Met.ofW (cc := cX6_evening) (maxL := 8) (ret := none) (by decide) rfl ?_
  intro p e s m args below meth c s₁ B hml hv
  obtain ⟨ha, hP, hK, hE, hD⟩ := hv
  have C : qC ceM 42 ad cy X A D zs cX6_evening 8 RX6 wsX6_evening p s m args meth c none := ⟨B.exec, B.bytes, hml, findClass_of_methodNamed B.named, atoms_spec (ws := wsX6_evening) B.pre, hK, hD, B.returns, B.notSynchronized, hE⟩
  rw [show entryFrame m args 8 = entryFrame m ([.ref (ad 0), .int a1, .int a2, .int a3] : List Value).toArray 8 by rw [ha]]
  refine q_entry (A := A) (Nat.le_of_ble_eq_true rfl) hP (lv := [(0, .ref (ad 0)), (1, .int a1), (2, .int a2), (3, .int a3)]) rfl ?_
  unfold fX6_evening at h
  refine q_aload_n C dX6_evening_0 rfl 0 rfl ?_
  refine q_get C (Cn := RX6) (T := TX6) (Nf := 60) (ci := 6) (id := 0) (k := 50) (v := .ref (ad 32)) nX6_evening_X6 (by decide) (ceM_0 ad cy _ _ _) rfl (by decide) rfl hX6_evening_116 dX6_evening_1 ?_
  refine q_iload_n C dX6_evening_4 rfl 1 rfl ?_
  refine q_iald C (id := 32) (by decide) (ceM_32 ad cy _ _ _) dX6_evening_5 h (fun h => ?_)
  refine q_if_ne C (tgt := 27) dX6_evening_6 (by decide) h (fun h => ?_) (fun h => ?_)
  · refine q_bipush C (v := 16) dX6_evening_27 (by decide) ?_
    refine q_iload_n C dX6_evening_29 rfl 1 rfl ?_
    refine q_imul C dX6_evening_30 ?_
    refine q_aload_n C dX6_evening_31 rfl 0 rfl ?_
    refine q_get C (Cn := RX6) (T := TX6) (Nf := 60) (ci := 6) (id := 0) (k := 50) (v := .ref (ad 32)) nX6_evening_X6 (by decide) (ceM_0 ad cy _ _ _) rfl (by decide) rfl hX6_evening_116 dX6_evening_32 ?_
    refine q_iload_n C dX6_evening_35 rfl 1 rfl ?_
    refine q_iald C (id := 32) (by decide) (ceM_32 ad cy _ _ _) dX6_evening_36 h (fun h => ?_)
    refine q_iadd C dX6_evening_37 ?_
    refine q_iconst C (v := 1) dX6_evening_38 (by decide) ?_
    refine q_isub C dX6_evening_39 ?_
    refine q_istoreL C dX6_evening_40 (by decide) h (lw := fun x40 => [(0, .ref (ad 0)), (1, .int a1), (2, .int a2), (3, .int a3), (4, .int x40)]) (fun _ => rfl) (fun x40 h => ?_)
    refine q_iload_n C dX6_evening_42 rfl 2 rfl ?_
    refine q_aload_n C dX6_evening_43 rfl 0 rfl ?_
    refine q_get C (Cn := RX6) (T := TX6) (Nf := 60) (ci := 6) (id := 0) (k := 51) (v := .ref (ad 33)) nX6_evening_X6 (by decide) (ceM_0 ad cy _ _ _) rfl (by decide) rfl hX6_evening_119 dX6_evening_44 ?_
    refine q_iload C dX6_evening_47 4 rfl ?_
    refine q_iald C (id := 33) (by decide) (ceM_33 ad cy _ _ _) dX6_evening_49 h (fun h => ?_)
    refine q_isub C dX6_evening_50 ?_
    refine q_istoreL C dX6_evening_51 (by decide) h (lw := fun x51 => [(0, .ref (ad 0)), (1, .int a1), (2, .int a2), (3, .int a3), (4, .int x40), (5, .int x51)]) (fun _ => rfl) (fun x51 h => ?_)
    refine q_iload C dX6_evening_53 5 rfl ?_
    refine q_bipush C (v := 30) dX6_evening_55 (by decide) ?_
    refine q_join (G := fun (y236 : St) => qVv ceM 42 ad cy X A D p l e (headSpec wsX6_evening rmX6_evening).room s m args below meth c 8 r0 σ0 236 [] [] y236) h (fun y236 h => ?_) (fun j236 hj236 h => ?_)
    · exact q_vret C (r0 := r0) rfl dX6_evening_236 h
    refine q_icmp_ne C (tgt := 71) dX6_evening_57 (by decide) h (fun h => ?_) (fun h => ?_)
    · refine q_iload C dX6_evening_71 5 rfl ?_
      refine q_bipush C (v := 29) dX6_evening_73 (by decide) ?_
      refine q_icmp_ne C (tgt := 127) dX6_evening_75 (by decide) h (fun h => ?_) (fun h => ?_)
      · refine q_iload C dX6_evening_127 5 rfl ?_
        refine q_iconst C (v := 1) dX6_evening_129 (by decide) ?_
        refine q_icmp_lt C (tgt := 236) dX6_evening_130 (by decide) h (fun h => ?_) (fun h => ?_)
        · exact q_sub [] rfl (hj236 σ h)
        · refine q_iload C dX6_evening_133 5 rfl ?_
          refine q_bipush C (v := 10) dX6_evening_135 (by decide) ?_
          refine q_icmp_gt C (tgt := 236) dX6_evening_137 (by decide) h (fun h => ?_) (fun h => ?_)
          · exact q_sub [] rfl (hj236 σ h)
          · refine q_aload_n C dX6_evening_140 rfl 0 rfl ?_
            refine q_get C (Cn := RX6) (T := TX6) (Nf := 60) (ci := 6) (id := 0) (k := 55) (v := .ref (ad 37)) nX6_evening_X6 (by decide) (ceM_0 ad cy _ _ _) rfl (by decide) rfl hX6_evening_131 dX6_evening_141 ?_
            refine q_iload C dX6_evening_144 4 rfl ?_
            refine q_zald C (id := 37) (by decide) (ceM_37 ad cy _ _ _) dX6_evening_146 h (fun h => ?_)
            refine q_if_eq C (tgt := 236) dX6_evening_147 (by decide) h (fun h => ?_) (fun h => ?_)
            · exact q_sub [] rfl (hj236 σ h)
            · refine q_aload_n C dX6_evening_150 rfl 0 rfl ?_
              refine q_get C (Cn := RX6) (T := TX6) (Nf := 60) (ci := 6) (id := 0) (k := 51) (v := .ref (ad 33)) nX6_evening_X6 (by decide) (ceM_0 ad cy _ _ _) rfl (by decide) rfl hX6_evening_119 dX6_evening_151 ?_
              refine q_iload C dX6_evening_154 4 rfl ?_
              refine q_iald C (id := 33) (by decide) (ceM_33 ad cy _ _ _) dX6_evening_156 h (fun h => ?_)
              refine q_iconst C (v := 1) dX6_evening_157 (by decide) ?_
              refine q_isub C dX6_evening_158 ?_
              refine q_istoreL C dX6_evening_159 (by decide) h (lw := fun x159 => [(0, .ref (ad 0)), (1, .int a1), (2, .int a2), (3, .int a3), (4, .int x40), (5, .int x51), (6, .int x159)]) (fun _ => rfl) (fun x159 h => ?_)
              refine q_aload_n C dX6_evening_161 rfl 0 rfl ?_
              refine q_iload_n C dX6_evening_162 rfl 1 rfl ?_
              refine q_iload_n C dX6_evening_163 rfl 2 rfl ?_
              refine q_iload C dX6_evening_164 6 rfl ?_
              refine q_aload_n C dX6_evening_166 rfl 0 rfl ?_
              refine q_get C (Cn := RX6) (T := TX6) (Nf := 60) (ci := 6) (id := 0) (k := 50) (v := .ref (ad 32)) nX6_evening_X6 (by decide) (ceM_0 ad cy _ _ _) rfl (by decide) rfl hX6_evening_116 dX6_evening_167 ?_
              refine q_iload_n C dX6_evening_170 rfl 1 rfl ?_
              refine q_iald C (id := 32) (by decide) (ceM_32 ad cy _ _ _) dX6_evening_171 h (fun h => ?_)
              refine q_iconst C (v := 1) dX6_evening_172 (by decide) ?_
              refine q_isub C dX6_evening_173 ?_
              refine q_iload_n C dX6_evening_174 rfl 3 rfl ?_
              refine q_callVv C (rm := rmX6_asks) (As := [.int a1, .int a2, .int x159, .int ((σ.1 32 a1.toNatClampNeg) - (1 : Int32)), .int a3]) (rest := []) (id := 0) (ci := 6) (fun r9 σ9 h9 => kX6_asks l D ad cy X A zs σ a1 a2 x159 ((σ.1 32 a1.toNatClampNeg) - (1 : Int32)) a3 r9 σ9 h9) gX6_evening_X6_asks rfl rfl rfl hyX6_asks ⟨Nat.le_of_ble_eq_true rfl, Nat.le_of_ble_eq_true rfl⟩ (by decide) (ceM_0 ad cy _ _ _) rfl rfl rfl (Nat.le_of_ble_eq_true rfl) dX6_evening_175 ⟨Nat.zero_le _, Nat.zero_le _⟩ h (fun r175 σ175 h => ?_)
              refine q_aload_n C dX6_evening_178 rfl 0 rfl ?_
              refine q_iload_n C dX6_evening_179 rfl 1 rfl ?_
              refine q_iconst C (v := 2) dX6_evening_180 (by decide) ?_
              refine q_callVi C (rm := rmX6_ruleOf) (As := [.int a1, .int (2 : Int32)]) (rest := []) (id := 0) (ci := 6) (fun r9 σ9 h9 => kX6_ruleOf l D ad cy X A zs σ175 a1 (2 : Int32) r9 σ9 h9) gX6_evening_X6_ruleOf rfl rfl rfl hyX6_ruleOf ⟨Nat.le_of_ble_eq_true rfl, Nat.le_of_ble_eq_true rfl⟩ (by decide) (ceM_0 ad cy _ _ _) rfl rfl rfl (Nat.le_of_ble_eq_true rfl) dX6_evening_181 ⟨Nat.zero_le _, Nat.zero_le _⟩ h (fun r181 σ181 h => ?_)
              refine q_istore C dX6_evening_184 (by decide) (lv' := [(0, .ref (ad 0)), (1, .int a1), (2, .int a2), (3, .int a3), (4, .int x40), (5, .int x51), (6, .int x159), (7, .int r181)]) rfl ?_
              refine q_iload C dX6_evening_186 7 rfl ?_
              refine q_iconst C (v := -1) dX6_evening_188 (by decide) ?_
              refine q_icmp_ne C (tgt := 193) dX6_evening_189 (by decide) h (fun h => ?_) (fun h => ?_)
              · refine q_aload_n C dX6_evening_193 rfl 0 rfl ?_
                refine q_get C (Cn := RX6) (T := TX6) (Nf := 60) (ci := 6) (id := 0) (k := 51) (v := .ref (ad 33)) nX6_evening_X6 (by decide) (ceM_0 ad cy _ _ _) rfl (by decide) rfl hX6_evening_119 dX6_evening_194 ?_
                refine q_iload C dX6_evening_197 4 rfl ?_
                refine q_iload C dX6_evening_199 6 rfl ?_
                refine q_iast C (id := 33) (by decide) (fun f g => ceM_33 ad cy _ f g) dX6_evening_201 h (fun σ201 h => ?_)
                refine q_aload_n C dX6_evening_202 rfl 0 rfl ?_
                refine q_get C (Cn := RX6) (T := TX6) (Nf := 60) (ci := 6) (id := 0) (k := 52) (v := .ref (ad 34)) nX6_evening_X6 (by decide) (ceM_0 ad cy _ _ _) rfl (by decide) rfl hX6_evening_122 dX6_evening_203 ?_
                refine q_iload C dX6_evening_206 4 rfl ?_
                refine q_iload C dX6_evening_208 7 rfl ?_
                refine q_iast C (id := 34) (by decide) (fun f g => ceM_34 ad cy _ f g) dX6_evening_210 h (fun σ210 h => ?_)
                refine q_aload_n C dX6_evening_211 rfl 0 rfl ?_
                refine q_get C (Cn := RX6) (T := TX6) (Nf := 60) (ci := 6) (id := 0) (k := 53) (v := .ref (ad 35)) nX6_evening_X6 (by decide) (ceM_0 ad cy _ _ _) rfl (by decide) rfl hX6_evening_125 dX6_evening_212 ?_
                refine q_iload C dX6_evening_215 4 rfl ?_
                refine q_iload_n C dX6_evening_217 rfl 2 rfl ?_
                refine q_iast C (id := 35) (by decide) (fun f g => ceM_35 ad cy _ f g) dX6_evening_218 h (fun σ218 h => ?_)
                refine q_aload_n C dX6_evening_219 rfl 0 rfl ?_
                refine q_get C (Cn := RX6) (T := TX6) (Nf := 60) (ci := 6) (id := 0) (k := 54) (v := .ref (ad 36)) nX6_evening_X6 (by decide) (ceM_0 ad cy _ _ _) rfl (by decide) rfl hX6_evening_128 dX6_evening_220 ?_
                refine q_iload C dX6_evening_223 4 rfl ?_
                refine q_iload C dX6_evening_225 6 rfl ?_
                refine q_iast C (id := 36) (by decide) (fun f g => ceM_36 ad cy _ f g) dX6_evening_227 h (fun σ227 h => ?_)
                refine q_aload_n C dX6_evening_228 rfl 0 rfl ?_
                refine q_get C (Cn := RX6) (T := TX6) (Nf := 60) (ci := 6) (id := 0) (k := 55) (v := .ref (ad 37)) nX6_evening_X6 (by decide) (ceM_0 ad cy _ _ _) rfl (by decide) rfl hX6_evening_131 dX6_evening_229 ?_
                refine q_iload C dX6_evening_232 4 rfl ?_
                refine q_iconst C (v := 0) dX6_evening_234 (by decide) ?_
                refine q_zast C (id := 37) (by decide) (fun f g => ceM_37 ad cy _ f g) dX6_evening_235 h (fun σ235 h => ?_)
                exact q_sub [] rfl (hj236 σ235 h)
              · exact q_vret C (r0 := r0) rfl dX6_evening_192 h
      · refine q_aload_n C dX6_evening_78 rfl 0 rfl ?_
        refine q_iload_n C dX6_evening_79 rfl 1 rfl ?_
        refine q_iload_n C dX6_evening_80 rfl 2 rfl ?_
        refine q_iload_n C dX6_evening_81 rfl 2 rfl ?_
        refine q_aload_n C dX6_evening_82 rfl 0 rfl ?_
        refine q_get C (Cn := RX6) (T := TX6) (Nf := 60) (ci := 6) (id := 0) (k := 50) (v := .ref (ad 32)) nX6_evening_X6 (by decide) (ceM_0 ad cy _ _ _) rfl (by decide) rfl hX6_evening_116 dX6_evening_83 ?_
        refine q_iload_n C dX6_evening_86 rfl 1 rfl ?_
        refine q_iald C (id := 32) (by decide) (ceM_32 ad cy _ _ _) dX6_evening_87 h (fun h => ?_)
        refine q_iload_n C dX6_evening_88 rfl 3 rfl ?_
        refine q_callVv C (rm := rmX6_asks) (As := [.int a1, .int a2, .int a2, .int (σ.1 32 a1.toNatClampNeg), .int a3]) (rest := []) (id := 0) (ci := 6) (fun r9 σ9 h9 => kX6_asks l D ad cy X A zs σ a1 a2 a2 (σ.1 32 a1.toNatClampNeg) a3 r9 σ9 h9) gX6_evening_X6_asks rfl rfl rfl hyX6_asks ⟨Nat.le_of_ble_eq_true rfl, Nat.le_of_ble_eq_true rfl⟩ (by decide) (ceM_0 ad cy _ _ _) rfl rfl rfl (Nat.le_of_ble_eq_true rfl) dX6_evening_89 ⟨Nat.zero_le _, Nat.zero_le _⟩ h (fun r89 σ89 h => ?_)
        refine q_aload_n C dX6_evening_92 rfl 0 rfl ?_
        refine q_iload_n C dX6_evening_93 rfl 1 rfl ?_
        refine q_iconst C (v := 0) dX6_evening_94 (by decide) ?_
        refine q_callVi C (rm := rmX6_ruleOf) (As := [.int a1, .int (0 : Int32)]) (rest := []) (id := 0) (ci := 6) (fun r9 σ9 h9 => kX6_ruleOf l D ad cy X A zs σ89 a1 (0 : Int32) r9 σ9 h9) gX6_evening_X6_ruleOf rfl rfl rfl hyX6_ruleOf ⟨Nat.le_of_ble_eq_true rfl, Nat.le_of_ble_eq_true rfl⟩ (by decide) (ceM_0 ad cy _ _ _) rfl rfl rfl (Nat.le_of_ble_eq_true rfl) dX6_evening_95 ⟨Nat.zero_le _, Nat.zero_le _⟩ h (fun r95 σ95 h => ?_)
        refine q_istore C dX6_evening_98 (by decide) (lv' := [(0, .ref (ad 0)), (1, .int a1), (2, .int a2), (3, .int a3), (4, .int x40), (5, .int x51), (6, .int r95)]) rfl ?_
        refine q_iload C dX6_evening_100 6 rfl ?_
        refine q_iconst C (v := -1) dX6_evening_102 (by decide) ?_
        refine q_join (G := fun (y124 : St) => qVv ceM 42 ad cy X A D p l e (headSpec wsX6_evening rmX6_evening).room s m args below meth c 8 r0 σ0 124 [] [] y124) h (fun y124 h => ?_) (fun j124 hj124 h => ?_)
        · refine q_goto C (tgt := 236) dX6_evening_124 (by decide) ?_
          exact q_sub [] rfl (hj236 y124 h)
        refine q_icmp_eq C (tgt := 124) dX6_evening_103 (by decide) h (fun h => ?_) (fun h => ?_)
        · exact q_sub [] rfl (hj124 σ95 h)
        · refine q_aload_n C dX6_evening_106 rfl 0 rfl ?_
          refine q_iload_n C dX6_evening_107 rfl 1 rfl ?_
          refine q_iconst C (v := 1) dX6_evening_108 (by decide) ?_
          refine q_callVi C (rm := rmX6_ruleOf) (As := [.int a1, .int (1 : Int32)]) (rest := []) (id := 0) (ci := 6) (fun r9 σ9 h9 => kX6_ruleOf l D ad cy X A zs σ95 a1 (1 : Int32) r9 σ9 h9) gX6_evening_X6_ruleOf rfl rfl rfl hyX6_ruleOf ⟨Nat.le_of_ble_eq_true rfl, Nat.le_of_ble_eq_true rfl⟩ (by decide) (ceM_0 ad cy _ _ _) rfl rfl rfl (Nat.le_of_ble_eq_true rfl) dX6_evening_109 ⟨Nat.zero_le _, Nat.zero_le _⟩ h (fun r109 σ109 h => ?_)
          refine q_iconst C (v := -1) dX6_evening_112 (by decide) ?_
          refine q_icmp_ne C (tgt := 124) dX6_evening_113 (by decide) h (fun h => ?_) (fun h => ?_)
          · exact q_sub [] rfl (hj124 σ109 h)
          · refine q_aload_n C dX6_evening_116 rfl 0 rfl ?_
            refine q_iload_n C dX6_evening_117 rfl 1 rfl ?_
            refine q_iload_n C dX6_evening_118 rfl 2 rfl ?_
            refine q_iload C dX6_evening_119 6 rfl ?_
            refine q_callVv C (rm := rmX6_adds) (As := [.int a1, .int a2, .int r95]) (rest := []) (id := 0) (ci := 6) (fun r9 σ9 h9 => kX6_adds l D ad cy X A zs σ109 a1 a2 r95 r9 σ9 h9) gX6_evening_X6_adds rfl rfl rfl hyX6_adds ⟨Nat.le_of_ble_eq_true rfl, Nat.le_of_ble_eq_true rfl⟩ (by decide) (ceM_0 ad cy _ _ _) rfl rfl rfl (Nat.le_of_ble_eq_true rfl) dX6_evening_121 ⟨Nat.zero_le _, Nat.zero_le _⟩ h (fun r121 σ121 h => ?_)
            exact q_sub [] rfl (hj124 σ121 h)
    · refine q_aload_n C dX6_evening_60 rfl 0 rfl ?_
      refine q_iload_n C dX6_evening_61 rfl 1 rfl ?_
      refine q_iload_n C dX6_evening_62 rfl 2 rfl ?_
      refine q_bipush C (v := -2) dX6_evening_63 (by decide) ?_
      refine q_callVv C (rm := rmX6_adds) (As := [.int a1, .int a2, .int (-2 : Int32)]) (rest := []) (id := 0) (ci := 6) (fun r9 σ9 h9 => kX6_adds l D ad cy X A zs σ a1 a2 (-2 : Int32) r9 σ9 h9) gX6_evening_X6_adds rfl rfl rfl hyX6_adds ⟨Nat.le_of_ble_eq_true rfl, Nat.le_of_ble_eq_true rfl⟩ (by decide) (ceM_0 ad cy _ _ _) rfl rfl rfl (Nat.le_of_ble_eq_true rfl) dX6_evening_65 ⟨Nat.zero_le _, Nat.zero_le _⟩ h (fun r65 σ65 h => ?_)
      refine q_goto C (tgt := 236) dX6_evening_68 (by decide) ?_
      exact q_sub [] rfl (hj236 σ65 h)
  · refine q_iload_n C dX6_evening_9 rfl 2 rfl ?_
    refine q_aload_n C dX6_evening_10 rfl 0 rfl ?_
    refine q_get C (Cn := RX6) (T := TX6) (Nf := 60) (ci := 6) (id := 0) (k := 39) (v := .ref (ad 24)) nX6_evening_X6 (by decide) (ceM_0 ad cy _ _ _) rfl (by decide) rfl hX6_evening_89 dX6_evening_11 ?_
    refine q_iload_n C dX6_evening_14 rfl 1 rfl ?_
    refine q_iald C (id := 24) (by decide) (ceM_24 ad cy _ _ _) dX6_evening_15 h (fun h => ?_)
    refine q_join (G := fun (y26 : St) => qVv ceM 42 ad cy X A D p l e (headSpec wsX6_evening rmX6_evening).room s m args below meth c 8 r0 σ0 26 [] [] y26) h (fun y26 h => ?_) (fun j26 hj26 h => ?_)
    · exact q_vret C (r0 := r0) rfl dX6_evening_26 h
    refine q_icmp_ne C (tgt := 26) dX6_evening_16 (by decide) h (fun h => ?_) (fun h => ?_)
    · exact q_sub [] rfl (hj26 σ h)
    · refine q_aload_n C dX6_evening_19 rfl 0 rfl ?_
      refine q_iload_n C dX6_evening_20 rfl 1 rfl ?_
      refine q_iload_n C dX6_evening_21 rfl 2 rfl ?_
      refine q_iconst C (v := -1) dX6_evening_22 (by decide) ?_
      refine q_callVv C (rm := rmX6_adds) (As := [.int a1, .int a2, .int (-1 : Int32)]) (rest := []) (id := 0) (ci := 6) (fun r9 σ9 h9 => kX6_adds l D ad cy X A zs σ a1 a2 (-1 : Int32) r9 σ9 h9) gX6_evening_X6_adds rfl rfl rfl hyX6_adds ⟨Nat.le_of_ble_eq_true rfl, Nat.le_of_ble_eq_true rfl⟩ (by decide) (ceM_0 ad cy _ _ _) rfl rfl rfl (Nat.le_of_ble_eq_true rfl) dX6_evening_23 ⟨Nat.zero_le _, Nat.zero_le _⟩ h (fun r23 σ23 h => ?_)
      exact q_sub [] rfl (hj26 σ23 h)
abbrev rmX6_goes : Room := { frames := 6, cells := 0, slots := 0, locals := 154 }
theorem hyX6_goes : yX6_goes.cls = RX6 ∧ yX6_goes.cls ≠ "java/lang/invoke/MethodHandle" ∧ yX6_goes.cls ≠ "java/lang/invoke/VarHandle" ∧ (parseMethodDescriptor yX6_goes.desc).map (fun d => d.parameters.length) = some 1 := by decide +kernel
theorem nX6_goes_X6 : ∀ w ∈ u_ws RX6 TX6 60, w ∈ wsX6_goes := fun w h => List.mem_cons_of_mem _ (List.mem_append_right _ h)
theorem hX6_goes_113 : Cond.fieldLink RX6 113 (TX6 49).1 (TX6 49).2.1 (TX6 49).2.2.1 ∈ wsX6_goes := by decide +kernel
theorem hX6_goes_116 : Cond.fieldLink RX6 116 (TX6 50).1 (TX6 50).2.1 (TX6 50).2.2.1 ∈ wsX6_goes := by decide +kernel
theorem hX6_goes_250 : Cond.fieldLink RX6 250 (TX6 37).1 (TX6 37).2.1 (TX6 37).2.2.1 ∈ wsX6_goes := by decide +kernel
def fX6_goes_L (a1 : Int32) : Nat → Nat → Int32 → Int32 → St → Option (Int32 × St)
  | 0, _, _, _, _ => none
  | n + 1, lab, v2, v3, σ => if lab = 0 then (if (6 : Int32) ≤ v2 then (fX6_goes_L a1 n 1 (0 : Int32) 0 σ) else (qix v2 6 (qlet (sI σ 32 v2.toNatClampNeg (0 : Int32)) (fun σ28 => qlet (v2 + (1 : Int32)) (fun x29 => fX6_goes_L a1 n 0 x29 0 σ28))))) else if lab = 1 then (if (400 : Int32) ≤ v2 then (some ((0 : Int32), σ)) else (fX6_goes_L a1 n 2 v2 (0 : Int32) σ)) else (if (σ.1 0 37) ≤ v3 then (qlet (v2 + (1 : Int32)) (fun x67 => fX6_goes_L a1 n 1 x67 0 σ)) else (qcall (fX6_evening σ v3 v2 a1) (fun _ σ58 => qlet (v3 + (1 : Int32)) (fun x61 => fX6_goes_L a1 n 2 v2 x61 σ58))))
def fX6_goes (σ : St) (a1 : Int32) : Option (Int32 × St) := if (σ.1 0 49) = a1 then (some ((0 : Int32), σ)) else (qlet (sI σ 0 49 a1) (fun σ11 => fX6_goes_L a1 100000 0 (0 : Int32) 0 σ11))
set_option maxHeartbeats 4000000 in
set_option maxRecDepth 100000 in
theorem kX6_goes_L {ad : Nat → Nat} {cy : Nat → ClassId} {X : va_W} {A : Nat → Prop} {D : va_G} {zs : Nat × Nat × Option Nat} {p : Program} {l : Launch} {e : Env} {s : State} {m : MethodId} {args : Array Value} {below : List Frame} {meth : Method} {c : Code} {a1 : Int32} (C : qC ceM 42 ad cy X A D zs cX6_goes 4 RX6 wsX6_goes p s m args meth c none) (r0 : Int32) (σ0 : St) (n : Nat) : (∀ (v2 : Int32) (σ : St), fX6_goes_L a1 n 0 v2 0 σ = some (r0, σ0) → qVv ceM 42 ad cy X A D p l e (headSpec wsX6_goes rmX6_goes).room s m args below meth c 4 r0 σ0 16 [(0, .ref (ad 0)), (1, .int a1), (2, .int v2)] [] σ) ∧ (∀ (v2 : Int32) (σ : St), fX6_goes_L a1 n 1 v2 0 σ = some (r0, σ0) → qVv ceM 42 ad cy X A D p l e (headSpec wsX6_goes rmX6_goes).room s m args below meth c 4 r0 σ0 37 [(0, .ref (ad 0)), (1, .int a1), (2, .int v2)] [] σ) ∧ (∀ (v2 : Int32) (v3 : Int32) (σ : St), fX6_goes_L a1 n 2 v2 v3 σ = some (r0, σ0) → qVv ceM 42 ad cy X A D p l e (headSpec wsX6_goes rmX6_goes).room s m args below meth c 4 r0 σ0 46 [(0, .ref (ad 0)), (1, .int a1), (2, .int v2), (3, .int v3)] [] σ) := by
  induction n with
  | zero =>
    refine ⟨?_, ?_, ?_⟩
    · intro v2 σ h; cases h
    · intro v2 σ h; cases h
    · intro v2 v3 σ h; cases h
  | succ n ih =>
    refine ⟨?_, ?_, ?_⟩
    · intro v2 σ h
      rw [fX6_goes_L] at h
      rw [if_pos rfl] at h
      refine q_iload_n C dX6_goes_16 rfl 2 rfl ?_
      refine q_bipush C (v := 6) dX6_goes_17 (by decide) ?_
      refine q_icmp_ge C (tgt := 35) dX6_goes_19 (by decide) h (fun h => ?_) (fun h => ?_)
      · refine q_iconst C (v := 0) dX6_goes_35 (by decide) ?_
        refine q_istore_n C dX6_goes_36 rfl (by decide) (lv' := [(0, .ref (ad 0)), (1, .int a1), (2, .int (0 : Int32))]) rfl ?_
        exact q_sub [0, 1, 2] rfl (ih.2.1 (0 : Int32) σ h)
      · refine q_aload_n C dX6_goes_22 rfl 0 rfl ?_
        refine q_get C (Cn := RX6) (T := TX6) (Nf := 60) (ci := 6) (id := 0) (k := 50) (v := .ref (ad 32)) nX6_goes_X6 (by decide) (ceM_0 ad cy _ _ _) rfl (by decide) rfl hX6_goes_116 dX6_goes_23 ?_
        refine q_iload_n C dX6_goes_26 rfl 2 rfl ?_
        refine q_iconst C (v := 0) dX6_goes_27 (by decide) ?_
        refine q_iast C (id := 32) (by decide) (fun f g => ceM_32 ad cy _ f g) dX6_goes_28 h (fun σ28 h => ?_)
        refine q_iincL C dX6_goes_29 2 rfl (by decide) (nv := 1) (by decide) h (lw := fun x29 => [(0, .ref (ad 0)), (1, .int a1), (2, .int x29)]) (fun _ => rfl) (fun x29 h => ?_)
        refine q_goto C (tgt := 16) dX6_goes_32 (by decide) ?_
        exact q_sub [0, 1, 2] rfl (ih.1 x29 σ28 h)
    · intro v2 σ h
      rw [fX6_goes_L] at h
      rw [if_neg (by decide)] at h
      rw [if_pos rfl] at h
      refine q_iload_n C dX6_goes_37 rfl 2 rfl ?_
      refine q_sipush C (v := 400) dX6_goes_38 (by decide) ?_
      refine q_icmp_ge C (tgt := 73) dX6_goes_41 (by decide) h (fun h => ?_) (fun h => ?_)
      · exact q_vret C (r0 := r0) rfl dX6_goes_73 h
      · refine q_iconst C (v := 0) dX6_goes_44 (by decide) ?_
        refine q_istore_n C dX6_goes_45 rfl (by decide) (lv' := [(0, .ref (ad 0)), (1, .int a1), (2, .int v2), (3, .int (0 : Int32))]) rfl ?_
        exact q_sub [0, 1, 2, 3] rfl (ih.2.2 v2 (0 : Int32) σ h)
    · intro v2 v3 σ h
      rw [fX6_goes_L] at h
      rw [if_neg (by decide)] at h
      rw [if_neg (by decide)] at h
      refine q_iload_n C dX6_goes_46 rfl 3 rfl ?_
      refine q_aload_n C dX6_goes_47 rfl 0 rfl ?_
      refine q_get C (Cn := RX6) (T := TX6) (Nf := 60) (ci := 6) (id := 0) (k := 37) (v := .int (σ.1 0 37)) nX6_goes_X6 (by decide) (ceM_0 ad cy _ _ _) rfl (by decide) rfl hX6_goes_250 dX6_goes_48 ?_
      refine q_icmp_ge C (tgt := 67) dX6_goes_51 (by decide) h (fun h => ?_) (fun h => ?_)
      · refine q_iincL C dX6_goes_67 2 rfl (by decide) (nv := 1) (by decide) h (lw := fun x67 => [(0, .ref (ad 0)), (1, .int a1), (2, .int x67), (3, .int v3)]) (fun _ => rfl) (fun x67 h => ?_)
        refine q_goto C (tgt := 37) dX6_goes_70 (by decide) ?_
        exact q_sub [0, 1, 2] rfl (ih.2.1 x67 σ h)
      · refine q_aload_n C dX6_goes_54 rfl 0 rfl ?_
        refine q_iload_n C dX6_goes_55 rfl 3 rfl ?_
        refine q_iload_n C dX6_goes_56 rfl 2 rfl ?_
        refine q_iload_n C dX6_goes_57 rfl 1 rfl ?_
        refine q_callVv C (rm := rmX6_evening) (As := [.int v3, .int v2, .int a1]) (rest := []) (id := 0) (ci := 6) (fun r9 σ9 h9 => kX6_evening l D ad cy X A zs σ v3 v2 a1 r9 σ9 h9) gX6_goes_X6_evening rfl rfl rfl hyX6_evening ⟨Nat.le_of_ble_eq_true rfl, Nat.le_of_ble_eq_true rfl⟩ (by decide) (ceM_0 ad cy _ _ _) rfl rfl rfl (Nat.le_of_ble_eq_true rfl) dX6_goes_58 ⟨Nat.zero_le _, Nat.zero_le _⟩ h (fun r58 σ58 h => ?_)
        refine q_iincL C dX6_goes_61 3 rfl (by decide) (nv := 1) (by decide) h (lw := fun x61 => [(0, .ref (ad 0)), (1, .int a1), (2, .int v2), (3, .int x61)]) (fun _ => rfl) (fun x61 h => ?_)
        refine q_goto C (tgt := 46) dX6_goes_64 (by decide) ?_
        exact q_sub [0, 1, 2, 3] rfl (ih.2.2 v2 x61 σ58 h)
set_option maxHeartbeats 4000000 in
set_option maxRecDepth 100000 in
theorem kX6_goes (l : Launch) (D : va_G) (ad : Nat → Nat) (cy : Nat → ClassId) (X : va_W) (A : Nat → Prop) (zs : Nat × Nat × Option Nat) (σ : St) (a1 : Int32) (r0 : Int32) (σ0 : St) (h : fX6_goes σ a1 = some (r0, σ0)) : Met l yX6_goes wsX6_goes rmX6_goes (qPc ceM 42 ad cy X A D zs [.ref (ad 0), .int a1] σ) (qQv ceM 42 ad cy X A D σ0) 0 0 A := by
  refine Met.ofW (cc := cX6_goes) (maxL := 4) (ret := none) (by decide) rfl ?_
  intro p e s m args below meth c s₁ B hml hv
  obtain ⟨ha, hP, hK, hE, hD⟩ := hv
  have C : qC ceM 42 ad cy X A D zs cX6_goes 4 RX6 wsX6_goes p s m args meth c none := ⟨B.exec, B.bytes, hml, findClass_of_methodNamed B.named, atoms_spec (ws := wsX6_goes) B.pre, hK, hD, B.returns, B.notSynchronized, hE⟩
  rw [show entryFrame m args 4 = entryFrame m ([.ref (ad 0), .int a1] : List Value).toArray 4 by rw [ha]]
  refine q_entry (A := A) (Nat.le_of_ble_eq_true rfl) hP (lv := [(0, .ref (ad 0)), (1, .int a1)]) rfl ?_
  unfold fX6_goes at h
  refine q_aload_n C dX6_goes_0 rfl 0 rfl ?_
  refine q_get C (Cn := RX6) (T := TX6) (Nf := 60) (ci := 6) (id := 0) (k := 49) (v := .int (σ.1 0 49)) nX6_goes_X6 (by decide) (ceM_0 ad cy _ _ _) rfl (by decide) rfl hX6_goes_113 dX6_goes_1 ?_
  refine q_iload_n C dX6_goes_4 rfl 1 rfl ?_
  refine q_icmp_ne C (tgt := 9) dX6_goes_5 (by decide) h (fun h => ?_) (fun h => ?_)
  · refine q_aload_n C dX6_goes_9 rfl 0 rfl ?_
    refine q_iload_n C dX6_goes_10 rfl 1 rfl ?_
    refine q_put C (Cn := RX6) (T := TX6) (ty0 := tyX6) (Nf := 60) (ci := 6) (id := 0) (k := 49) (y := 0) tyX6_ok nmX6 nX6_goes_X6 (by decide) (ceM_0 ad cy _ _ _) (ceM_0 ad cy _ _ _) rfl (by decide) rfl (by decide +kernel) (Nat.le_of_ble_eq_true rfl) hX6_goes_113 dX6_goes_11 h (fun σ11 h => ?_)
    refine q_iconst C (v := 0) dX6_goes_14 (by decide) ?_
    refine q_istore_n C dX6_goes_15 rfl (by decide) (lv' := [(0, .ref (ad 0)), (1, .int a1), (2, .int (0 : Int32))]) rfl ?_
    exact q_sub [0, 1, 2] rfl ((kX6_goes_L C r0 σ0 100000).1 (0 : Int32) σ11 h)
  · exact q_vret C (r0 := r0) rfl dX6_goes_8 h
