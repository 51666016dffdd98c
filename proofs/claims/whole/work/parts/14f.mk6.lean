def oR (qs : List Nat) (i : Nat) : Value := match qs[i]? with | some q => .ref q | none => .null
def OM (qs : List Nat) (x y : Int32) : List Value := [.int 0, oR qs 0, .int 0, oR qs 1, .int 0, oR qs 2, oR qs 3, oR qs 4, oR qs 5, oR qs 6, .int 0, .int 0, .int 0, .int 0, .int 0, .int 0, .int 0, .int x, oR qs 7, .int 0, oR qs 8, oR qs 9, oR qs 10, oR qs 11, oR qs 12, oR qs 13, oR qs 14, oR qs 15, oR qs 16, oR qs 17, .int 0, oR qs 18, oR qs 19, oR qs 20, .int 0, .int 0, oR qs 21, .int 0, oR qs 22, oR qs 23, oR qs 24, oR qs 25, oR qs 26, .int 0, oR qs 27, .int 0, oR qs 28, oR qs 29, oR qs 30, .int y, oR qs 31, oR qs 32, oR qs 33, oR qs 34, oR qs 35, oR qs 36, oR qs 37, oR qs 38, oR qs 39, oR qs 40]
def AM (cy : Nat → ClassId) (qs : List Nat) (i : Nat) : Nat × va_E := match i with
  | 0 => (qs.getD 0 0, .inl (cy 0, 2000, .inl (fun _ => 0)))
  | 1 => (qs.getD 1 0, .inl (cy 0, 2000, .inl (fun _ => 0)))
  | 2 => (qs.getD 2 0, .inl (cy 1, 403, .inl (fun _ => 0)))
  | 3 => (qs.getD 3 0, .inl (cy 1, 403, .inl (fun _ => 0)))
  | 4 => (qs.getD 4 0, .inl (cy 1, 403, .inl (fun _ => 0)))
  | 5 => (qs.getD 5 0, .inl (cy 2, 403, .inr (.inl (fun _ => 0))))
  | 6 => (qs.getD 6 0, .inl (cy 2, 14, .inr (.inl (fun _ => 0))))
  | 7 => (qs.getD 7 0, .inl (cy 1, 6, .inl (fun _ => 0)))
  | 8 => (qs.getD 8 0, .inl (cy 1, 12, .inl (fun _ => 0)))
  | 9 => (qs.getD 9 0, .inl (cy 1, 144, .inl (fun _ => 0)))
  | 10 => (qs.getD 10 0, .inl (cy 1, 144, .inl (fun _ => 0)))
  | 11 => (qs.getD 11 0, .inl (cy 1, 144, .inl (fun _ => 0)))
  | 12 => (qs.getD 12 0, .inl (cy 1, 12, .inl (fun _ => 0)))
  | 13 => (qs.getD 13 0, .inl (cy 1, 2400, .inl (fun _ => 0)))
  | 14 => (qs.getD 14 0, .inl (cy 1, 2400, .inl (fun _ => 0)))
  | 15 => (qs.getD 15 0, .inl (cy 1, 2400, .inl (fun _ => 0)))
  | 16 => (qs.getD 16 0, .inl (cy 1, 2400, .inl (fun _ => 0)))
  | 17 => (qs.getD 17 0, .inl (cy 3, 2400, .inl (fun _ => 0)))
  | 18 => (qs.getD 18 0, .inl (cy 1, 6000, .inl (fun _ => 0)))
  | 19 => (qs.getD 19 0, .inl (cy 1, 6000, .inl (fun _ => 0)))
  | 20 => (qs.getD 20 0, .inl (cy 1, 48, .inl (fun _ => 0)))
  | 21 => (qs.getD 21 0, .inl (cy 1, 14, .inl (fun _ => 0)))
  | 22 => (qs.getD 22 0, .inl (cy 1, 6, .inl (fun _ => 0)))
  | 23 => (qs.getD 23 0, .inl (cy 1, 6, .inl (fun _ => 0)))
  | 24 => (qs.getD 24 0, .inl (cy 1, 6, .inl (fun _ => 0)))
  | 25 => (qs.getD 25 0, .inl (cy 1, 360, .inl (fun _ => 0)))
  | 26 => (qs.getD 26 0, .inl (cy 1, 36, .inl (fun _ => 0)))
  | 27 => (qs.getD 27 0, .inl (cy 1, 12, .inl (fun _ => 0)))
  | 28 => (qs.getD 28 0, .inl (cy 3, 300, .inl (fun _ => 0)))
  | 29 => (qs.getD 29 0, .inl (cy 1, 300, .inl (fun _ => 0)))
  | 30 => (qs.getD 30 0, .inl (cy 1, 300, .inl (fun _ => 0)))
  | 31 => (qs.getD 31 0, .inl (cy 1, 6, .inl (fun _ => 0)))
  | 32 => (qs.getD 32 0, .inl (cy 1, 96, .inl (fun _ => 0)))
  | 33 => (qs.getD 33 0, .inl (cy 1, 96, .inl (fun _ => 0)))
  | 34 => (qs.getD 34 0, .inl (cy 1, 96, .inl (fun _ => 0)))
  | 35 => (qs.getD 35 0, .inl (cy 1, 96, .inl (fun _ => 0)))
  | 36 => (qs.getD 36 0, .inl (cy 3, 96, .inl (fun _ => 0)))
  | 37 => (qs.getD 37 0, .inl (cy 1, 8, .inl (fun _ => 0)))
  | 38 => (qs.getD 38 0, .inl (cy 1, 500, .inl (fun _ => 0)))
  | 39 => (qs.getD 39 0, .inl (cy 3, 12, .inl (fun _ => 0)))
  | 40 => (qs.getD 40 0, .inl (cy 1, 16, .inl (fun _ => 0)))
  | _ => (0, .inr (0, []))
def LM (cy : Nat → ClassId) (h0 : Nat) (qs : List Nat) (x y : Int32) : va_W := (h0, .inr (6, OM qs x y)) :: (List.range qs.length).map (AM cy qs)
set_option maxHeartbeats 8000000 in
set_option maxRecDepth 100000 in
theorem mX6_init (l : Launch) (D : va_G) (cy : Nat → ClassId) (X : va_W) (A : Nat → Prop) (zs : Nat × Nat × Option Nat) (h0 : Nat) (r0 : Int32) (σ0 : St) (h : fX6_init μ1 = some (r0, σ0)) : Met l yX6_init wsX6_init rmX6_init (iPc cy (LM cy h0 [] 0 0) X A D zs [.ref h0]) (iQ (fun u => qw ceM 42 (fun k => if k = 0 then h0 else u k) cy σ0) X A D) 41 32498 A := by
  refine Met.ofW (cc := cX6_init) (maxL := 2) (ret := none) (by decide) rfl ?_
  intro p e s m args below meth c s₁ B hml hv
  obtain ⟨ha, hP, hK, hE, hD, hA, hI⟩ := hv
  have hini : meth.name = "<init>" := (name_of_methodNamed B.named B.method).1
  have C : qC ceC 0 (fun _ => 0) cy ((LM cy h0 [] 0 0) ++ X) A D zs cX6_init 2 RX6 wsX6_init p s m args meth c none := ⟨B.exec, B.bytes, hml, findClass_of_methodNamed B.named, atoms_spec (ws := wsX6_init) B.pre, hK, fun _ => hD, B.returns, B.notSynchronized, hE⟩
  rw [show entryFrame m args 2 = entryFrame m ([.ref h0] : List Value).toArray 2 by rw [ha]]
  refine q_entry (ce := ceC) (N := 0) (ad := fun _ => 0) (cy := cy) (X := (LM cy h0 [] 0 0) ++ X) (σ := iσ) (A := A) (Nat.le_of_ble_eq_true rfl) hP (lv := [(0, .ref h0)]) rfl ?_
  refine q_aload_n C dX6_init_0 rfl 0 rfl ?_
  refine i_objinit C hX6_init_7 hX6_init_oi hX6_init_oc dX6_init_1 (Nat.le_of_ble_eq_true rfl) (Nat.le_of_ble_eq_true rfl) ?_
  refine q_aload_n C dX6_init_4 rfl 0 rfl ?_
  refine q_sipush C (v := 2000) dX6_init_5 (by decide) ?_
  refine i_newa C hA (t0 := 0) (cA := cy 0) rfl rfl (fun _ h => by cases h) haX6_init_byte (N' := 2000) (a0 := (2000, .inl (fun _ => 0))) (fun _ => rfl) (by decide) (by decide) (by decide) (Nat.le_of_ble_eq_true rfl) (Nat.le_of_ble_eq_true rfl) dX6_init_8 (fun q8 C => ?_)
  refine i_putF C hini (Cn := RX6) (T := TX6) (ty0 := tyX6) (Nf := 60) (ci := 6) (k := 1) (v := .ref q8) tyX6_ok nmX6 nX6_init_X6 0 rfl rfl (by decide) rfl rfl (ty := .array .byte) (by decide +kernel) rfl rfl (Nat.le_of_ble_eq_true rfl) hX6_init_13 dX6_init_10 (L' := LM cy h0 [q8] (0) (0)) rfl (fun C => ?_)
  refine q_aload_n C dX6_init_13 rfl 0 rfl ?_
  refine q_sipush C (v := 2000) dX6_init_14 (by decide) ?_
  refine i_newa C hA (t0 := 0) (cA := cy 0) rfl rfl (fun _ h => by cases h) haX6_init_byte (N' := 2000) (a0 := (2000, .inl (fun _ => 0))) (fun _ => rfl) (by decide) (by decide) (by decide) (Nat.le_of_ble_eq_true rfl) (Nat.le_of_ble_eq_true rfl) dX6_init_17 (fun q17 C => ?_)
  refine i_putF C hini (Cn := RX6) (T := TX6) (ty0 := tyX6) (Nf := 60) (ci := 6) (k := 3) (v := .ref q17) tyX6_ok nmX6 nX6_init_X6 0 rfl rfl (by decide) rfl rfl (ty := .array .byte) (by decide +kernel) rfl rfl (Nat.le_of_ble_eq_true rfl) hX6_init_17 dX6_init_19 (L' := LM cy h0 [q8, q17] (0) (0)) rfl (fun C => ?_)
  refine q_aload_n C dX6_init_22 rfl 0 rfl ?_
  refine q_sipush C (v := 403) dX6_init_23 (by decide) ?_
  refine i_newa C hA (t0 := 1) (cA := cy 1) rfl rfl (fun _ h => by cases h) haX6_init_int (N' := 403) (a0 := (403, .inl (fun _ => 0))) (fun _ => rfl) (by decide) (by decide) (by decide) (Nat.le_of_ble_eq_true rfl) (Nat.le_of_ble_eq_true rfl) dX6_init_26 (fun q26 C => ?_)
  refine i_putF C hini (Cn := RX6) (T := TX6) (ty0 := tyX6) (Nf := 60) (ci := 6) (k := 5) (v := .ref q26) tyX6_ok nmX6 nX6_init_X6 0 rfl rfl (by decide) rfl rfl (ty := .array .int) (by decide +kernel) rfl rfl (Nat.le_of_ble_eq_true rfl) hX6_init_20 dX6_init_28 (L' := LM cy h0 [q8, q17, q26] (0) (0)) rfl (fun C => ?_)
  refine q_aload_n C dX6_init_31 rfl 0 rfl ?_
  refine q_sipush C (v := 403) dX6_init_32 (by decide) ?_
  refine i_newa C hA (t0 := 1) (cA := cy 1) rfl rfl (fun _ h => by cases h) haX6_init_int (N' := 403) (a0 := (403, .inl (fun _ => 0))) (fun _ => rfl) (by decide) (by decide) (by decide) (Nat.le_of_ble_eq_true rfl) (Nat.le_of_ble_eq_true rfl) dX6_init_35 (fun q35 C => ?_)
  refine i_putF C hini (Cn := RX6) (T := TX6) (ty0 := tyX6) (Nf := 60) (ci := 6) (k := 6) (v := .ref q35) tyX6_ok nmX6 nX6_init_X6 0 rfl rfl (by decide) rfl rfl (ty := .array .int) (by decide +kernel) rfl rfl (Nat.le_of_ble_eq_true rfl) hX6_init_24 dX6_init_37 (L' := LM cy h0 [q8, q17, q26, q35] (0) (0)) rfl (fun C => ?_)
  refine q_aload_n C dX6_init_40 rfl 0 rfl ?_
  refine q_sipush C (v := 403) dX6_init_41 (by decide) ?_
  refine i_newa C hA (t0 := 1) (cA := cy 1) rfl rfl (fun _ h => by cases h) haX6_init_int (N' := 403) (a0 := (403, .inl (fun _ => 0))) (fun _ => rfl) (by decide) (by decide) (by decide) (Nat.le_of_ble_eq_true rfl) (Nat.le_of_ble_eq_true rfl) dX6_init_44 (fun q44 C => ?_)
  refine i_putF C hini (Cn := RX6) (T := TX6) (ty0 := tyX6) (Nf := 60) (ci := 6) (k := 7) (v := .ref q44) tyX6_ok nmX6 nX6_init_X6 0 rfl rfl (by decide) rfl rfl (ty := .array .int) (by decide +kernel) rfl rfl (Nat.le_of_ble_eq_true rfl) hX6_init_27 dX6_init_46 (L' := LM cy h0 [q8, q17, q26, q35, q44] (0) (0)) rfl (fun C => ?_)
  refine q_aload_n C dX6_init_49 rfl 0 rfl ?_
  refine q_sipush C (v := 403) dX6_init_50 (by decide) ?_
  refine i_newa C hA (t0 := 2) (cA := cy 2) rfl rfl (fun _ h => by cases h) haX6_init_long (N' := 403) (a0 := (403, .inr (.inl (fun _ => 0)))) (fun _ => rfl) (by decide) (by decide) (by decide) (Nat.le_of_ble_eq_true rfl) (Nat.le_of_ble_eq_true rfl) dX6_init_53 (fun q53 C => ?_)
  refine i_putF C hini (Cn := RX6) (T := TX6) (ty0 := tyX6) (Nf := 60) (ci := 6) (k := 8) (v := .ref q53) tyX6_ok nmX6 nX6_init_X6 0 rfl rfl (by decide) rfl rfl (ty := .array .long) (by decide +kernel) rfl rfl (Nat.le_of_ble_eq_true rfl) hX6_init_30 dX6_init_55 (L' := LM cy h0 [q8, q17, q26, q35, q44, q53] (0) (0)) rfl (fun C => ?_)
  refine q_aload_n C dX6_init_58 rfl 0 rfl ?_
  refine q_bipush C (v := 14) dX6_init_59 (by decide) ?_
  refine i_newa C hA (t0 := 2) (cA := cy 2) rfl rfl (fun _ h => by cases h) haX6_init_long (N' := 14) (a0 := (14, .inr (.inl (fun _ => 0)))) (fun _ => rfl) (by decide) (by decide) (by decide) (Nat.le_of_ble_eq_true rfl) (Nat.le_of_ble_eq_true rfl) dX6_init_61 (fun q61 C => ?_)
  refine i_putF C hini (Cn := RX6) (T := TX6) (ty0 := tyX6) (Nf := 60) (ci := 6) (k := 9) (v := .ref q61) tyX6_ok nmX6 nX6_init_X6 0 rfl rfl (by decide) rfl rfl (ty := .array .long) (by decide +kernel) rfl rfl (Nat.le_of_ble_eq_true rfl) hX6_init_34 dX6_init_63 (L' := LM cy h0 [q8, q17, q26, q35, q44, q53, q61] (0) (0)) rfl (fun C => ?_)
  refine q_aload_n C dX6_init_66 rfl 0 rfl ?_
  refine q_iconst C (v := -1) dX6_init_67 (by decide) ?_
  refine i_put C (Cn := RX6) (T := TX6) (ty0 := tyX6) (Nf := 60) (ci := 6) (k := 17) (v := .int (-1)) tyX6_ok nmX6 nX6_init_X6 0 rfl rfl (by decide) rfl (ty := .int) (by decide +kernel) rfl rfl (Nat.le_of_ble_eq_true rfl) hX6_init_37 dX6_init_68 (L' := LM cy h0 [q8, q17, q26, q35, q44, q53, q61] (-1) (0)) rfl (fun C => ?_)
  refine q_aload_n C dX6_init_71 rfl 0 rfl ?_
  refine q_bipush C (v := 6) dX6_init_72 (by decide) ?_
  refine i_newa C hA (t0 := 1) (cA := cy 1) rfl rfl (fun _ h => by cases h) haX6_init_int (N' := 6) (a0 := (6, .inl (fun _ => 0))) (fun _ => rfl) (by decide) (by decide) (by decide) (Nat.le_of_ble_eq_true rfl) (Nat.le_of_ble_eq_true rfl) dX6_init_74 (fun q74 C => ?_)
  refine i_putF C hini (Cn := RX6) (T := TX6) (ty0 := tyX6) (Nf := 60) (ci := 6) (k := 18) (v := .ref q74) tyX6_ok nmX6 nX6_init_X6 0 rfl rfl (by decide) rfl rfl (ty := .array .int) (by decide +kernel) rfl rfl (Nat.le_of_ble_eq_true rfl) hX6_init_40 dX6_init_76 (L' := LM cy h0 [q8, q17, q26, q35, q44, q53, q61, q74] (-1) (0)) rfl (fun C => ?_)
  refine q_aload_n C dX6_init_79 rfl 0 rfl ?_
  refine q_bipush C (v := 12) dX6_init_80 (by decide) ?_
  refine i_newa C hA (t0 := 1) (cA := cy 1) rfl rfl (fun _ h => by cases h) haX6_init_int (N' := 12) (a0 := (12, .inl (fun _ => 0))) (fun _ => rfl) (by decide) (by decide) (by decide) (Nat.le_of_ble_eq_true rfl) (Nat.le_of_ble_eq_true rfl) dX6_init_82 (fun q82 C => ?_)
  refine i_putF C hini (Cn := RX6) (T := TX6) (ty0 := tyX6) (Nf := 60) (ci := 6) (k := 20) (v := .ref q82) tyX6_ok nmX6 nX6_init_X6 0 rfl rfl (by decide) rfl rfl (ty := .array .int) (by decide +kernel) rfl rfl (Nat.le_of_ble_eq_true rfl) hX6_init_43 dX6_init_84 (L' := LM cy h0 [q8, q17, q26, q35, q44, q53, q61, q74, q82] (-1) (0)) rfl (fun C => ?_)
  refine q_aload_n C dX6_init_87 rfl 0 rfl ?_
  refine q_sipush C (v := 144) dX6_init_88 (by decide) ?_
  refine i_newa C hA (t0 := 1) (cA := cy 1) rfl rfl (fun _ h => by cases h) haX6_init_int (N' := 144) (a0 := (144, .inl (fun _ => 0))) (fun _ => rfl) (by decide) (by decide) (by decide) (Nat.le_of_ble_eq_true rfl) (Nat.le_of_ble_eq_true rfl) dX6_init_91 (fun q91 C => ?_)
  refine i_putF C hini (Cn := RX6) (T := TX6) (ty0 := tyX6) (Nf := 60) (ci := 6) (k := 21) (v := .ref q91) tyX6_ok nmX6 nX6_init_X6 0 rfl rfl (by decide) rfl rfl (ty := .array .int) (by decide +kernel) rfl rfl (Nat.le_of_ble_eq_true rfl) hX6_init_46 dX6_init_93 (L' := LM cy h0 [q8, q17, q26, q35, q44, q53, q61, q74, q82, q91] (-1) (0)) rfl (fun C => ?_)
  refine q_aload_n C dX6_init_96 rfl 0 rfl ?_
  refine q_sipush C (v := 144) dX6_init_97 (by decide) ?_
  refine i_newa C hA (t0 := 1) (cA := cy 1) rfl rfl (fun _ h => by cases h) haX6_init_int (N' := 144) (a0 := (144, .inl (fun _ => 0))) (fun _ => rfl) (by decide) (by decide) (by decide) (Nat.le_of_ble_eq_true rfl) (Nat.le_of_ble_eq_true rfl) dX6_init_100 (fun q100 C => ?_)
  refine i_putF C hini (Cn := RX6) (T := TX6) (ty0 := tyX6) (Nf := 60) (ci := 6) (k := 22) (v := .ref q100) tyX6_ok nmX6 nX6_init_X6 0 rfl rfl (by decide) rfl rfl (ty := .array .int) (by decide +kernel) rfl rfl (Nat.le_of_ble_eq_true rfl) hX6_init_49 dX6_init_102 (L' := LM cy h0 [q8, q17, q26, q35, q44, q53, q61, q74, q82, q91, q100] (-1) (0)) rfl (fun C => ?_)
  refine q_aload_n C dX6_init_105 rfl 0 rfl ?_
  refine q_sipush C (v := 144) dX6_init_106 (by decide) ?_
  refine i_newa C hA (t0 := 1) (cA := cy 1) rfl rfl (fun _ h => by cases h) haX6_init_int (N' := 144) (a0 := (144, .inl (fun _ => 0))) (fun _ => rfl) (by decide) (by decide) (by decide) (Nat.le_of_ble_eq_true rfl) (Nat.le_of_ble_eq_true rfl) dX6_init_109 (fun q109 C => ?_)
  refine i_putF C hini (Cn := RX6) (T := TX6) (ty0 := tyX6) (Nf := 60) (ci := 6) (k := 23) (v := .ref q109) tyX6_ok nmX6 nX6_init_X6 0 rfl rfl (by decide) rfl rfl (ty := .array .int) (by decide +kernel) rfl rfl (Nat.le_of_ble_eq_true rfl) hX6_init_52 dX6_init_111 (L' := LM cy h0 [q8, q17, q26, q35, q44, q53, q61, q74, q82, q91, q100, q109] (-1) (0)) rfl (fun C => ?_)
  refine q_aload_n C dX6_init_114 rfl 0 rfl ?_
  refine q_bipush C (v := 12) dX6_init_115 (by decide) ?_
  refine i_newa C hA (t0 := 1) (cA := cy 1) rfl rfl (fun _ h => by cases h) haX6_init_int (N' := 12) (a0 := (12, .inl (fun _ => 0))) (fun _ => rfl) (by decide) (by decide) (by decide) (Nat.le_of_ble_eq_true rfl) (Nat.le_of_ble_eq_true rfl) dX6_init_117 (fun q117 C => ?_)
  refine i_putF C hini (Cn := RX6) (T := TX6) (ty0 := tyX6) (Nf := 60) (ci := 6) (k := 24) (v := .ref q117) tyX6_ok nmX6 nX6_init_X6 0 rfl rfl (by decide) rfl rfl (ty := .array .int) (by decide +kernel) rfl rfl (Nat.le_of_ble_eq_true rfl) hX6_init_55 dX6_init_119 (L' := LM cy h0 [q8, q17, q26, q35, q44, q53, q61, q74, q82, q91, q100, q109, q117] (-1) (0)) rfl (fun C => ?_)
  refine q_aload_n C dX6_init_122 rfl 0 rfl ?_
  refine q_sipush C (v := 2400) dX6_init_123 (by decide) ?_
  refine i_newa C hA (t0 := 1) (cA := cy 1) rfl rfl (fun _ h => by cases h) haX6_init_int (N' := 2400) (a0 := (2400, .inl (fun _ => 0))) (fun _ => rfl) (by decide) (by decide) (by decide) (Nat.le_of_ble_eq_true rfl) (Nat.le_of_ble_eq_true rfl) dX6_init_126 (fun q126 C => ?_)
  refine i_putF C hini (Cn := RX6) (T := TX6) (ty0 := tyX6) (Nf := 60) (ci := 6) (k := 25) (v := .ref q126) tyX6_ok nmX6 nX6_init_X6 0 rfl rfl (by decide) rfl rfl (ty := .array .int) (by decide +kernel) rfl rfl (Nat.le_of_ble_eq_true rfl) hX6_init_58 dX6_init_128 (L' := LM cy h0 [q8, q17, q26, q35, q44, q53, q61, q74, q82, q91, q100, q109, q117, q126] (-1) (0)) rfl (fun C => ?_)
  refine q_aload_n C dX6_init_131 rfl 0 rfl ?_
  refine q_sipush C (v := 2400) dX6_init_132 (by decide) ?_
  refine i_newa C hA (t0 := 1) (cA := cy 1) rfl rfl (fun _ h => by cases h) haX6_init_int (N' := 2400) (a0 := (2400, .inl (fun _ => 0))) (fun _ => rfl) (by decide) (by decide) (by decide) (Nat.le_of_ble_eq_true rfl) (Nat.le_of_ble_eq_true rfl) dX6_init_135 (fun q135 C => ?_)
  refine i_putF C hini (Cn := RX6) (T := TX6) (ty0 := tyX6) (Nf := 60) (ci := 6) (k := 26) (v := .ref q135) tyX6_ok nmX6 nX6_init_X6 0 rfl rfl (by decide) rfl rfl (ty := .array .int) (by decide +kernel) rfl rfl (Nat.le_of_ble_eq_true rfl) hX6_init_61 dX6_init_137 (L' := LM cy h0 [q8, q17, q26, q35, q44, q53, q61, q74, q82, q91, q100, q109, q117, q126, q135] (-1) (0)) rfl (fun C => ?_)
  refine q_aload_n C dX6_init_140 rfl 0 rfl ?_
  refine q_sipush C (v := 2400) dX6_init_141 (by decide) ?_
  refine i_newa C hA (t0 := 1) (cA := cy 1) rfl rfl (fun _ h => by cases h) haX6_init_int (N' := 2400) (a0 := (2400, .inl (fun _ => 0))) (fun _ => rfl) (by decide) (by decide) (by decide) (Nat.le_of_ble_eq_true rfl) (Nat.le_of_ble_eq_true rfl) dX6_init_144 (fun q144 C => ?_)
  refine i_putF C hini (Cn := RX6) (T := TX6) (ty0 := tyX6) (Nf := 60) (ci := 6) (k := 27) (v := .ref q144) tyX6_ok nmX6 nX6_init_X6 0 rfl rfl (by decide) rfl rfl (ty := .array .int) (by decide +kernel) rfl rfl (Nat.le_of_ble_eq_true rfl) hX6_init_64 dX6_init_146 (L' := LM cy h0 [q8, q17, q26, q35, q44, q53, q61, q74, q82, q91, q100, q109, q117, q126, q135, q144] (-1) (0)) rfl (fun C => ?_)
  refine q_aload_n C dX6_init_149 rfl 0 rfl ?_
  refine q_sipush C (v := 2400) dX6_init_150 (by decide) ?_
  refine i_newa C hA (t0 := 1) (cA := cy 1) rfl rfl (fun _ h => by cases h) haX6_init_int (N' := 2400) (a0 := (2400, .inl (fun _ => 0))) (fun _ => rfl) (by decide) (by decide) (by decide) (Nat.le_of_ble_eq_true rfl) (Nat.le_of_ble_eq_true rfl) dX6_init_153 (fun q153 C => ?_)
  refine i_putF C hini (Cn := RX6) (T := TX6) (ty0 := tyX6) (Nf := 60) (ci := 6) (k := 28) (v := .ref q153) tyX6_ok nmX6 nX6_init_X6 0 rfl rfl (by decide) rfl rfl (ty := .array .int) (by decide +kernel) rfl rfl (Nat.le_of_ble_eq_true rfl) hX6_init_67 dX6_init_155 (L' := LM cy h0 [q8, q17, q26, q35, q44, q53, q61, q74, q82, q91, q100, q109, q117, q126, q135, q144, q153] (-1) (0)) rfl (fun C => ?_)
  refine q_aload_n C dX6_init_158 rfl 0 rfl ?_
  refine q_sipush C (v := 2400) dX6_init_159 (by decide) ?_
  refine i_newa C hA (t0 := 3) (cA := cy 3) rfl rfl (fun _ h => by cases h) haX6_init_boolean (N' := 2400) (a0 := (2400, .inl (fun _ => 0))) (fun _ => rfl) (by decide) (by decide) (by decide) (Nat.le_of_ble_eq_true rfl) (Nat.le_of_ble_eq_true rfl) dX6_init_162 (fun q162 C => ?_)
  refine i_putF C hini (Cn := RX6) (T := TX6) (ty0 := tyX6) (Nf := 60) (ci := 6) (k := 29) (v := .ref q162) tyX6_ok nmX6 nX6_init_X6 0 rfl rfl (by decide) rfl rfl (ty := .array .boolean) (by decide +kernel) rfl rfl (Nat.le_of_ble_eq_true rfl) hX6_init_70 dX6_init_164 (L' := LM cy h0 [q8, q17, q26, q35, q44, q53, q61, q74, q82, q91, q100, q109, q117, q126, q135, q144, q153, q162] (-1) (0)) rfl (fun C => ?_)
  refine q_aload_n C dX6_init_167 rfl 0 rfl ?_
  refine q_sipush C (v := 6000) dX6_init_168 (by decide) ?_
  refine i_newa C hA (t0 := 1) (cA := cy 1) rfl rfl (fun _ h => by cases h) haX6_init_int (N' := 6000) (a0 := (6000, .inl (fun _ => 0))) (fun _ => rfl) (by decide) (by decide) (by decide) (Nat.le_of_ble_eq_true rfl) (Nat.le_of_ble_eq_true rfl) dX6_init_171 (fun q171 C => ?_)
  refine i_putF C hini (Cn := RX6) (T := TX6) (ty0 := tyX6) (Nf := 60) (ci := 6) (k := 31) (v := .ref q171) tyX6_ok nmX6 nX6_init_X6 0 rfl rfl (by decide) rfl rfl (ty := .array .int) (by decide +kernel) rfl rfl (Nat.le_of_ble_eq_true rfl) hX6_init_74 dX6_init_173 (L' := LM cy h0 [q8, q17, q26, q35, q44, q53, q61, q74, q82, q91, q100, q109, q117, q126, q135, q144, q153, q162, q171] (-1) (0)) rfl (fun C => ?_)
  refine q_aload_n C dX6_init_176 rfl 0 rfl ?_
  refine q_sipush C (v := 6000) dX6_init_177 (by decide) ?_
  refine i_newa C hA (t0 := 1) (cA := cy 1) rfl rfl (fun _ h => by cases h) haX6_init_int (N' := 6000) (a0 := (6000, .inl (fun _ => 0))) (fun _ => rfl) (by decide) (by decide) (by decide) (Nat.le_of_ble_eq_true rfl) (Nat.le_of_ble_eq_true rfl) dX6_init_180 (fun q180 C => ?_)
  refine i_putF C hini (Cn := RX6) (T := TX6) (ty0 := tyX6) (Nf := 60) (ci := 6) (k := 32) (v := .ref q180) tyX6_ok nmX6 nX6_init_X6 0 rfl rfl (by decide) rfl rfl (ty := .array .int) (by decide +kernel) rfl rfl (Nat.le_of_ble_eq_true rfl) hX6_init_77 dX6_init_182 (L' := LM cy h0 [q8, q17, q26, q35, q44, q53, q61, q74, q82, q91, q100, q109, q117, q126, q135, q144, q153, q162, q171, q180] (-1) (0)) rfl (fun C => ?_)
  refine q_aload_n C dX6_init_185 rfl 0 rfl ?_
  refine q_bipush C (v := 48) dX6_init_186 (by decide) ?_
  refine i_newa C hA (t0 := 1) (cA := cy 1) rfl rfl (fun _ h => by cases h) haX6_init_int (N' := 48) (a0 := (48, .inl (fun _ => 0))) (fun _ => rfl) (by decide) (by decide) (by decide) (Nat.le_of_ble_eq_true rfl) (Nat.le_of_ble_eq_true rfl) dX6_init_188 (fun q188 C => ?_)
  refine i_putF C hini (Cn := RX6) (T := TX6) (ty0 := tyX6) (Nf := 60) (ci := 6) (k := 33) (v := .ref q188) tyX6_ok nmX6 nX6_init_X6 0 rfl rfl (by decide) rfl rfl (ty := .array .int) (by decide +kernel) rfl rfl (Nat.le_of_ble_eq_true rfl) hX6_init_80 dX6_init_190 (L' := LM cy h0 [q8, q17, q26, q35, q44, q53, q61, q74, q82, q91, q100, q109, q117, q126, q135, q144, q153, q162, q171, q180, q188] (-1) (0)) rfl (fun C => ?_)
  refine q_aload_n C dX6_init_193 rfl 0 rfl ?_
  refine q_bipush C (v := 14) dX6_init_194 (by decide) ?_
  refine i_newa C hA (t0 := 1) (cA := cy 1) rfl rfl (fun _ h => by cases h) haX6_init_int (N' := 14) (a0 := (14, .inl (fun _ => 0))) (fun _ => rfl) (by decide) (by decide) (by decide) (Nat.le_of_ble_eq_true rfl) (Nat.le_of_ble_eq_true rfl) dX6_init_196 (fun q196 C => ?_)
  refine i_putF C hini (Cn := RX6) (T := TX6) (ty0 := tyX6) (Nf := 60) (ci := 6) (k := 36) (v := .ref q196) tyX6_ok nmX6 nX6_init_X6 0 rfl rfl (by decide) rfl rfl (ty := .array .int) (by decide +kernel) rfl rfl (Nat.le_of_ble_eq_true rfl) hX6_init_83 dX6_init_198 (L' := LM cy h0 [q8, q17, q26, q35, q44, q53, q61, q74, q82, q91, q100, q109, q117, q126, q135, q144, q153, q162, q171, q180, q188, q196] (-1) (0)) rfl (fun C => ?_)
  refine q_aload_n C dX6_init_201 rfl 0 rfl ?_
  refine q_bipush C (v := 6) dX6_init_202 (by decide) ?_
  refine i_newa C hA (t0 := 1) (cA := cy 1) rfl rfl (fun _ h => by cases h) haX6_init_int (N' := 6) (a0 := (6, .inl (fun _ => 0))) (fun _ => rfl) (by decide) (by decide) (by decide) (Nat.le_of_ble_eq_true rfl) (Nat.le_of_ble_eq_true rfl) dX6_init_204 (fun q204 C => ?_)
  refine i_putF C hini (Cn := RX6) (T := TX6) (ty0 := tyX6) (Nf := 60) (ci := 6) (k := 38) (v := .ref q204) tyX6_ok nmX6 nX6_init_X6 0 rfl rfl (by decide) rfl rfl (ty := .array .int) (by decide +kernel) rfl rfl (Nat.le_of_ble_eq_true rfl) hX6_init_86 dX6_init_206 (L' := LM cy h0 [q8, q17, q26, q35, q44, q53, q61, q74, q82, q91, q100, q109, q117, q126, q135, q144, q153, q162, q171, q180, q188, q196, q204] (-1) (0)) rfl (fun C => ?_)
  refine q_aload_n C dX6_init_209 rfl 0 rfl ?_
  refine q_bipush C (v := 6) dX6_init_210 (by decide) ?_
  refine i_newa C hA (t0 := 1) (cA := cy 1) rfl rfl (fun _ h => by cases h) haX6_init_int (N' := 6) (a0 := (6, .inl (fun _ => 0))) (fun _ => rfl) (by decide) (by decide) (by decide) (Nat.le_of_ble_eq_true rfl) (Nat.le_of_ble_eq_true rfl) dX6_init_212 (fun q212 C => ?_)
  refine i_putF C hini (Cn := RX6) (T := TX6) (ty0 := tyX6) (Nf := 60) (ci := 6) (k := 39) (v := .ref q212) tyX6_ok nmX6 nX6_init_X6 0 rfl rfl (by decide) rfl rfl (ty := .array .int) (by decide +kernel) rfl rfl (Nat.le_of_ble_eq_true rfl) hX6_init_89 dX6_init_214 (L' := LM cy h0 [q8, q17, q26, q35, q44, q53, q61, q74, q82, q91, q100, q109, q117, q126, q135, q144, q153, q162, q171, q180, q188, q196, q204, q212] (-1) (0)) rfl (fun C => ?_)
  refine q_aload_n C dX6_init_217 rfl 0 rfl ?_
  refine q_bipush C (v := 6) dX6_init_218 (by decide) ?_
  refine i_newa C hA (t0 := 1) (cA := cy 1) rfl rfl (fun _ h => by cases h) haX6_init_int (N' := 6) (a0 := (6, .inl (fun _ => 0))) (fun _ => rfl) (by decide) (by decide) (by decide) (Nat.le_of_ble_eq_true rfl) (Nat.le_of_ble_eq_true rfl) dX6_init_220 (fun q220 C => ?_)
  refine i_putF C hini (Cn := RX6) (T := TX6) (ty0 := tyX6) (Nf := 60) (ci := 6) (k := 40) (v := .ref q220) tyX6_ok nmX6 nX6_init_X6 0 rfl rfl (by decide) rfl rfl (ty := .array .int) (by decide +kernel) rfl rfl (Nat.le_of_ble_eq_true rfl) hX6_init_92 dX6_init_222 (L' := LM cy h0 [q8, q17, q26, q35, q44, q53, q61, q74, q82, q91, q100, q109, q117, q126, q135, q144, q153, q162, q171, q180, q188, q196, q204, q212, q220] (-1) (0)) rfl (fun C => ?_)
  refine q_aload_n C dX6_init_225 rfl 0 rfl ?_
  refine q_sipush C (v := 360) dX6_init_226 (by decide) ?_
  refine i_newa C hA (t0 := 1) (cA := cy 1) rfl rfl (fun _ h => by cases h) haX6_init_int (N' := 360) (a0 := (360, .inl (fun _ => 0))) (fun _ => rfl) (by decide) (by decide) (by decide) (Nat.le_of_ble_eq_true rfl) (Nat.le_of_ble_eq_true rfl) dX6_init_229 (fun q229 C => ?_)
  refine i_putF C hini (Cn := RX6) (T := TX6) (ty0 := tyX6) (Nf := 60) (ci := 6) (k := 41) (v := .ref q229) tyX6_ok nmX6 nX6_init_X6 0 rfl rfl (by decide) rfl rfl (ty := .array .int) (by decide +kernel) rfl rfl (Nat.le_of_ble_eq_true rfl) hX6_init_95 dX6_init_231 (L' := LM cy h0 [q8, q17, q26, q35, q44, q53, q61, q74, q82, q91, q100, q109, q117, q126, q135, q144, q153, q162, q171, q180, q188, q196, q204, q212, q220, q229] (-1) (0)) rfl (fun C => ?_)
  refine q_aload_n C dX6_init_234 rfl 0 rfl ?_
  refine q_bipush C (v := 36) dX6_init_235 (by decide) ?_
  refine i_newa C hA (t0 := 1) (cA := cy 1) rfl rfl (fun _ h => by cases h) haX6_init_int (N' := 36) (a0 := (36, .inl (fun _ => 0))) (fun _ => rfl) (by decide) (by decide) (by decide) (Nat.le_of_ble_eq_true rfl) (Nat.le_of_ble_eq_true rfl) dX6_init_237 (fun q237 C => ?_)
  refine i_putF C hini (Cn := RX6) (T := TX6) (ty0 := tyX6) (Nf := 60) (ci := 6) (k := 42) (v := .ref q237) tyX6_ok nmX6 nX6_init_X6 0 rfl rfl (by decide) rfl rfl (ty := .array .int) (by decide +kernel) rfl rfl (Nat.le_of_ble_eq_true rfl) hX6_init_98 dX6_init_239 (L' := LM cy h0 [q8, q17, q26, q35, q44, q53, q61, q74, q82, q91, q100, q109, q117, q126, q135, q144, q153, q162, q171, q180, q188, q196, q204, q212, q220, q229, q237] (-1) (0)) rfl (fun C => ?_)
  refine q_aload_n C dX6_init_242 rfl 0 rfl ?_
  refine q_bipush C (v := 12) dX6_init_243 (by decide) ?_
  refine i_newa C hA (t0 := 1) (cA := cy 1) rfl rfl (fun _ h => by cases h) haX6_init_int (N' := 12) (a0 := (12, .inl (fun _ => 0))) (fun _ => rfl) (by decide) (by decide) (by decide) (Nat.le_of_ble_eq_true rfl) (Nat.le_of_ble_eq_true rfl) dX6_init_245 (fun q245 C => ?_)
  refine i_putF C hini (Cn := RX6) (T := TX6) (ty0 := tyX6) (Nf := 60) (ci := 6) (k := 44) (v := .ref q245) tyX6_ok nmX6 nX6_init_X6 0 rfl rfl (by decide) rfl rfl (ty := .array .int) (by decide +kernel) rfl rfl (Nat.le_of_ble_eq_true rfl) hX6_init_101 dX6_init_247 (L' := LM cy h0 [q8, q17, q26, q35, q44, q53, q61, q74, q82, q91, q100, q109, q117, q126, q135, q144, q153, q162, q171, q180, q188, q196, q204, q212, q220, q229, q237, q245] (-1) (0)) rfl (fun C => ?_)
  refine q_aload_n C dX6_init_250 rfl 0 rfl ?_
  refine q_sipush C (v := 300) dX6_init_251 (by decide) ?_
  refine i_newa C hA (t0 := 3) (cA := cy 3) rfl rfl (fun _ h => by cases h) haX6_init_boolean (N' := 300) (a0 := (300, .inl (fun _ => 0))) (fun _ => rfl) (by decide) (by decide) (by decide) (Nat.le_of_ble_eq_true rfl) (Nat.le_of_ble_eq_true rfl) dX6_init_254 (fun q254 C => ?_)
  refine i_putF C hini (Cn := RX6) (T := TX6) (ty0 := tyX6) (Nf := 60) (ci := 6) (k := 46) (v := .ref q254) tyX6_ok nmX6 nX6_init_X6 0 rfl rfl (by decide) rfl rfl (ty := .array .boolean) (by decide +kernel) rfl rfl (Nat.le_of_ble_eq_true rfl) hX6_init_104 dX6_init_256 (L' := LM cy h0 [q8, q17, q26, q35, q44, q53, q61, q74, q82, q91, q100, q109, q117, q126, q135, q144, q153, q162, q171, q180, q188, q196, q204, q212, q220, q229, q237, q245, q254] (-1) (0)) rfl (fun C => ?_)
  refine q_aload_n C dX6_init_259 rfl 0 rfl ?_
  refine q_sipush C (v := 300) dX6_init_260 (by decide) ?_
  refine i_newa C hA (t0 := 1) (cA := cy 1) rfl rfl (fun _ h => by cases h) haX6_init_int (N' := 300) (a0 := (300, .inl (fun _ => 0))) (fun _ => rfl) (by decide) (by decide) (by decide) (Nat.le_of_ble_eq_true rfl) (Nat.le_of_ble_eq_true rfl) dX6_init_263 (fun q263 C => ?_)
  refine i_putF C hini (Cn := RX6) (T := TX6) (ty0 := tyX6) (Nf := 60) (ci := 6) (k := 47) (v := .ref q263) tyX6_ok nmX6 nX6_init_X6 0 rfl rfl (by decide) rfl rfl (ty := .array .int) (by decide +kernel) rfl rfl (Nat.le_of_ble_eq_true rfl) hX6_init_107 dX6_init_265 (L' := LM cy h0 [q8, q17, q26, q35, q44, q53, q61, q74, q82, q91, q100, q109, q117, q126, q135, q144, q153, q162, q171, q180, q188, q196, q204, q212, q220, q229, q237, q245, q254, q263] (-1) (0)) rfl (fun C => ?_)
  refine q_aload_n C dX6_init_268 rfl 0 rfl ?_
  refine q_sipush C (v := 300) dX6_init_269 (by decide) ?_
  refine i_newa C hA (t0 := 1) (cA := cy 1) rfl rfl (fun _ h => by cases h) haX6_init_int (N' := 300) (a0 := (300, .inl (fun _ => 0))) (fun _ => rfl) (by decide) (by decide) (by decide) (Nat.le_of_ble_eq_true rfl) (Nat.le_of_ble_eq_true rfl) dX6_init_272 (fun q272 C => ?_)
  refine i_putF C hini (Cn := RX6) (T := TX6) (ty0 := tyX6) (Nf := 60) (ci := 6) (k := 48) (v := .ref q272) tyX6_ok nmX6 nX6_init_X6 0 rfl rfl (by decide) rfl rfl (ty := .array .int) (by decide +kernel) rfl rfl (Nat.le_of_ble_eq_true rfl) hX6_init_110 dX6_init_274 (L' := LM cy h0 [q8, q17, q26, q35, q44, q53, q61, q74, q82, q91, q100, q109, q117, q126, q135, q144, q153, q162, q171, q180, q188, q196, q204, q212, q220, q229, q237, q245, q254, q263, q272] (-1) (0)) rfl (fun C => ?_)
  refine q_aload_n C dX6_init_277 rfl 0 rfl ?_
  refine q_iconst C (v := -1) dX6_init_278 (by decide) ?_
  refine i_put C (Cn := RX6) (T := TX6) (ty0 := tyX6) (Nf := 60) (ci := 6) (k := 49) (v := .int (-1)) tyX6_ok nmX6 nX6_init_X6 0 rfl rfl (by decide) rfl (ty := .int) (by decide +kernel) rfl rfl (Nat.le_of_ble_eq_true rfl) hX6_init_113 dX6_init_279 (L' := LM cy h0 [q8, q17, q26, q35, q44, q53, q61, q74, q82, q91, q100, q109, q117, q126, q135, q144, q153, q162, q171, q180, q188, q196, q204, q212, q220, q229, q237, q245, q254, q263, q272] (-1) (-1)) rfl (fun C => ?_)
  refine q_aload_n C dX6_init_282 rfl 0 rfl ?_
  refine q_bipush C (v := 6) dX6_init_283 (by decide) ?_
  refine i_newa C hA (t0 := 1) (cA := cy 1) rfl rfl (fun _ h => by cases h) haX6_init_int (N' := 6) (a0 := (6, .inl (fun _ => 0))) (fun _ => rfl) (by decide) (by decide) (by decide) (Nat.le_of_ble_eq_true rfl) (Nat.le_of_ble_eq_true rfl) dX6_init_285 (fun q285 C => ?_)
  refine i_putF C hini (Cn := RX6) (T := TX6) (ty0 := tyX6) (Nf := 60) (ci := 6) (k := 50) (v := .ref q285) tyX6_ok nmX6 nX6_init_X6 0 rfl rfl (by decide) rfl rfl (ty := .array .int) (by decide +kernel) rfl rfl (Nat.le_of_ble_eq_true rfl) hX6_init_116 dX6_init_287 (L' := LM cy h0 [q8, q17, q26, q35, q44, q53, q61, q74, q82, q91, q100, q109, q117, q126, q135, q144, q153, q162, q171, q180, q188, q196, q204, q212, q220, q229, q237, q245, q254, q263, q272, q285] (-1) (-1)) rfl (fun C => ?_)
  refine q_aload_n C dX6_init_290 rfl 0 rfl ?_
  refine q_bipush C (v := 96) dX6_init_291 (by decide) ?_
  refine i_newa C hA (t0 := 1) (cA := cy 1) rfl rfl (fun _ h => by cases h) haX6_init_int (N' := 96) (a0 := (96, .inl (fun _ => 0))) (fun _ => rfl) (by decide) (by decide) (by decide) (Nat.le_of_ble_eq_true rfl) (Nat.le_of_ble_eq_true rfl) dX6_init_293 (fun q293 C => ?_)
  refine i_putF C hini (Cn := RX6) (T := TX6) (ty0 := tyX6) (Nf := 60) (ci := 6) (k := 51) (v := .ref q293) tyX6_ok nmX6 nX6_init_X6 0 rfl rfl (by decide) rfl rfl (ty := .array .int) (by decide +kernel) rfl rfl (Nat.le_of_ble_eq_true rfl) hX6_init_119 dX6_init_295 (L' := LM cy h0 [q8, q17, q26, q35, q44, q53, q61, q74, q82, q91, q100, q109, q117, q126, q135, q144, q153, q162, q171, q180, q188, q196, q204, q212, q220, q229, q237, q245, q254, q263, q272, q285, q293] (-1) (-1)) rfl (fun C => ?_)
  refine q_aload_n C dX6_init_298 rfl 0 rfl ?_
  refine q_bipush C (v := 96) dX6_init_299 (by decide) ?_
  refine i_newa C hA (t0 := 1) (cA := cy 1) rfl rfl (fun _ h => by cases h) haX6_init_int (N' := 96) (a0 := (96, .inl (fun _ => 0))) (fun _ => rfl) (by decide) (by decide) (by decide) (Nat.le_of_ble_eq_true rfl) (Nat.le_of_ble_eq_true rfl) dX6_init_301 (fun q301 C => ?_)
  refine i_putF C hini (Cn := RX6) (T := TX6) (ty0 := tyX6) (Nf := 60) (ci := 6) (k := 52) (v := .ref q301) tyX6_ok nmX6 nX6_init_X6 0 rfl rfl (by decide) rfl rfl (ty := .array .int) (by decide +kernel) rfl rfl (Nat.le_of_ble_eq_true rfl) hX6_init_122 dX6_init_303 (L' := LM cy h0 [q8, q17, q26, q35, q44, q53, q61, q74, q82, q91, q100, q109, q117, q126, q135, q144, q153, q162, q171, q180, q188, q196, q204, q212, q220, q229, q237, q245, q254, q263, q272, q285, q293, q301] (-1) (-1)) rfl (fun C => ?_)
  refine q_aload_n C dX6_init_306 rfl 0 rfl ?_
  refine q_bipush C (v := 96) dX6_init_307 (by decide) ?_
  refine i_newa C hA (t0 := 1) (cA := cy 1) rfl rfl (fun _ h => by cases h) haX6_init_int (N' := 96) (a0 := (96, .inl (fun _ => 0))) (fun _ => rfl) (by decide) (by decide) (by decide) (Nat.le_of_ble_eq_true rfl) (Nat.le_of_ble_eq_true rfl) dX6_init_309 (fun q309 C => ?_)
  refine i_putF C hini (Cn := RX6) (T := TX6) (ty0 := tyX6) (Nf := 60) (ci := 6) (k := 53) (v := .ref q309) tyX6_ok nmX6 nX6_init_X6 0 rfl rfl (by decide) rfl rfl (ty := .array .int) (by decide +kernel) rfl rfl (Nat.le_of_ble_eq_true rfl) hX6_init_125 dX6_init_311 (L' := LM cy h0 [q8, q17, q26, q35, q44, q53, q61, q74, q82, q91, q100, q109, q117, q126, q135, q144, q153, q162, q171, q180, q188, q196, q204, q212, q220, q229, q237, q245, q254, q263, q272, q285, q293, q301, q309] (-1) (-1)) rfl (fun C => ?_)
  refine q_aload_n C dX6_init_314 rfl 0 rfl ?_
  refine q_bipush C (v := 96) dX6_init_315 (by decide) ?_
  refine i_newa C hA (t0 := 1) (cA := cy 1) rfl rfl (fun _ h => by cases h) haX6_init_int (N' := 96) (a0 := (96, .inl (fun _ => 0))) (fun _ => rfl) (by decide) (by decide) (by decide) (Nat.le_of_ble_eq_true rfl) (Nat.le_of_ble_eq_true rfl) dX6_init_317 (fun q317 C => ?_)
  refine i_putF C hini (Cn := RX6) (T := TX6) (ty0 := tyX6) (Nf := 60) (ci := 6) (k := 54) (v := .ref q317) tyX6_ok nmX6 nX6_init_X6 0 rfl rfl (by decide) rfl rfl (ty := .array .int) (by decide +kernel) rfl rfl (Nat.le_of_ble_eq_true rfl) hX6_init_128 dX6_init_319 (L' := LM cy h0 [q8, q17, q26, q35, q44, q53, q61, q74, q82, q91, q100, q109, q117, q126, q135, q144, q153, q162, q171, q180, q188, q196, q204, q212, q220, q229, q237, q245, q254, q263, q272, q285, q293, q301, q309, q317] (-1) (-1)) rfl (fun C => ?_)
  refine q_aload_n C dX6_init_322 rfl 0 rfl ?_
  refine q_bipush C (v := 96) dX6_init_323 (by decide) ?_
  refine i_newa C hA (t0 := 3) (cA := cy 3) rfl rfl (fun _ h => by cases h) haX6_init_boolean (N' := 96) (a0 := (96, .inl (fun _ => 0))) (fun _ => rfl) (by decide) (by decide) (by decide) (Nat.le_of_ble_eq_true rfl) (Nat.le_of_ble_eq_true rfl) dX6_init_325 (fun q325 C => ?_)
  refine i_putF C hini (Cn := RX6) (T := TX6) (ty0 := tyX6) (Nf := 60) (ci := 6) (k := 55) (v := .ref q325) tyX6_ok nmX6 nX6_init_X6 0 rfl rfl (by decide) rfl rfl (ty := .array .boolean) (by decide +kernel) rfl rfl (Nat.le_of_ble_eq_true rfl) hX6_init_131 dX6_init_327 (L' := LM cy h0 [q8, q17, q26, q35, q44, q53, q61, q74, q82, q91, q100, q109, q117, q126, q135, q144, q153, q162, q171, q180, q188, q196, q204, q212, q220, q229, q237, q245, q254, q263, q272, q285, q293, q301, q309, q317, q325] (-1) (-1)) rfl (fun C => ?_)
  refine q_aload_n C dX6_init_330 rfl 0 rfl ?_
  refine q_bipush C (v := 8) dX6_init_331 (by decide) ?_
  refine i_newa C hA (t0 := 1) (cA := cy 1) rfl rfl (fun _ h => by cases h) haX6_init_int (N' := 8) (a0 := (8, .inl (fun _ => 0))) (fun _ => rfl) (by decide) (by decide) (by decide) (Nat.le_of_ble_eq_true rfl) (Nat.le_of_ble_eq_true rfl) dX6_init_333 (fun q333 C => ?_)
  refine i_putF C hini (Cn := RX6) (T := TX6) (ty0 := tyX6) (Nf := 60) (ci := 6) (k := 56) (v := .ref q333) tyX6_ok nmX6 nX6_init_X6 0 rfl rfl (by decide) rfl rfl (ty := .array .int) (by decide +kernel) rfl rfl (Nat.le_of_ble_eq_true rfl) hX6_init_134 dX6_init_335 (L' := LM cy h0 [q8, q17, q26, q35, q44, q53, q61, q74, q82, q91, q100, q109, q117, q126, q135, q144, q153, q162, q171, q180, q188, q196, q204, q212, q220, q229, q237, q245, q254, q263, q272, q285, q293, q301, q309, q317, q325, q333] (-1) (-1)) rfl (fun C => ?_)
  refine q_aload_n C dX6_init_338 rfl 0 rfl ?_
  refine q_sipush C (v := 500) dX6_init_339 (by decide) ?_
  refine i_newa C hA (t0 := 1) (cA := cy 1) rfl rfl (fun _ h => by cases h) haX6_init_int (N' := 500) (a0 := (500, .inl (fun _ => 0))) (fun _ => rfl) (by decide) (by decide) (by decide) (Nat.le_of_ble_eq_true rfl) (Nat.le_of_ble_eq_true rfl) dX6_init_342 (fun q342 C => ?_)
  refine i_putF C hini (Cn := RX6) (T := TX6) (ty0 := tyX6) (Nf := 60) (ci := 6) (k := 57) (v := .ref q342) tyX6_ok nmX6 nX6_init_X6 0 rfl rfl (by decide) rfl rfl (ty := .array .int) (by decide +kernel) rfl rfl (Nat.le_of_ble_eq_true rfl) hX6_init_137 dX6_init_344 (L' := LM cy h0 [q8, q17, q26, q35, q44, q53, q61, q74, q82, q91, q100, q109, q117, q126, q135, q144, q153, q162, q171, q180, q188, q196, q204, q212, q220, q229, q237, q245, q254, q263, q272, q285, q293, q301, q309, q317, q325, q333, q342] (-1) (-1)) rfl (fun C => ?_)
  refine q_aload_n C dX6_init_347 rfl 0 rfl ?_
  refine q_bipush C (v := 12) dX6_init_348 (by decide) ?_
  refine i_newa C hA (t0 := 3) (cA := cy 3) rfl rfl (fun _ h => by cases h) haX6_init_boolean (N' := 12) (a0 := (12, .inl (fun _ => 0))) (fun _ => rfl) (by decide) (by decide) (by decide) (Nat.le_of_ble_eq_true rfl) (Nat.le_of_ble_eq_true rfl) dX6_init_350 (fun q350 C => ?_)
  refine i_putF C hini (Cn := RX6) (T := TX6) (ty0 := tyX6) (Nf := 60) (ci := 6) (k := 58) (v := .ref q350) tyX6_ok nmX6 nX6_init_X6 0 rfl rfl (by decide) rfl rfl (ty := .array .boolean) (by decide +kernel) rfl rfl (Nat.le_of_ble_eq_true rfl) hX6_init_140 dX6_init_352 (L' := LM cy h0 [q8, q17, q26, q35, q44, q53, q61, q74, q82, q91, q100, q109, q117, q126, q135, q144, q153, q162, q171, q180, q188, q196, q204, q212, q220, q229, q237, q245, q254, q263, q272, q285, q293, q301, q309, q317, q325, q333, q342, q350] (-1) (-1)) rfl (fun C => ?_)
  refine q_aload_n C dX6_init_355 rfl 0 rfl ?_
  refine q_bipush C (v := 16) dX6_init_356 (by decide) ?_
  refine i_newa C hA (t0 := 1) (cA := cy 1) rfl rfl (fun _ h => by cases h) haX6_init_int (N' := 16) (a0 := (16, .inl (fun _ => 0))) (fun _ => rfl) (by decide) (by decide) (by decide) (Nat.le_of_ble_eq_true rfl) (Nat.le_of_ble_eq_true rfl) dX6_init_358 (fun q358 C => ?_)
  refine i_putF C hini (Cn := RX6) (T := TX6) (ty0 := tyX6) (Nf := 60) (ci := 6) (k := 59) (v := .ref q358) tyX6_ok nmX6 nX6_init_X6 0 rfl rfl (by decide) rfl rfl (ty := .array .int) (by decide +kernel) rfl rfl (Nat.le_of_ble_eq_true rfl) hX6_init_143 dX6_init_360 (L' := LM cy h0 [q8, q17, q26, q35, q44, q53, q61, q74, q82, q91, q100, q109, q117, q126, q135, q144, q153, q162, q171, q180, q188, q196, q204, q212, q220, q229, q237, q245, q254, q263, q272, q285, q293, q301, q309, q317, q325, q333, q342, q350, q358] (-1) (-1)) rfl (fun C => ?_)
  refine i_toM (σ1 := μ1) (h0 := h0) C ⟨fun k => if k = 0 then h0 else if k = 1 then q8 else if k = 2 then q17 else if k = 3 then q26 else if k = 4 then q35 else if k = 5 then q44 else if k = 6 then q53 else if k = 7 then q61 else if k = 8 then q74 else if k = 9 then q82 else if k = 10 then q91 else if k = 11 then q100 else if k = 12 then q109 else if k = 13 then q117 else if k = 14 then q126 else if k = 15 then q135 else if k = 16 then q144 else if k = 17 then q153 else if k = 18 then q162 else if k = 19 then q171 else if k = 20 then q180 else if k = 21 then q188 else if k = 22 then q196 else if k = 23 then q204 else if k = 24 then q212 else if k = 25 then q220 else if k = 26 then q229 else if k = 27 then q237 else if k = 28 then q245 else if k = 29 then q254 else if k = 30 then q263 else if k = 31 then q272 else if k = 32 then q285 else if k = 33 then q293 else if k = 34 then q301 else if k = 35 then q309 else if k = 36 then q317 else if k = 37 then q325 else if k = 38 then q333 else if k = 39 then q342 else if k = 40 then q350 else if k = 41 then q358 else 0, rfl, rfl⟩ (fun ad hh CM => ?_)
  subst hh
  exact tX6_init CM r0 μ1 σ0 h
