theorem qw_D {ce : qCE} {N : Nat} {ad : Nat → Nat} {cy : Nat → ClassId} {σ1 : St} (σ2 : St) {X : va_W} {A : Nat → Prop} (h : va_D A (qw ce N ad cy σ1 ++ X)) : va_D A (qw ce N ad cy σ2 ++ X) := by
  have e : ∀ σ, (qw ce N ad cy σ ++ X).map Prod.fst = (List.range N).map ad ++ X.map Prod.fst := fun σ => by
    rw [List.map_append]
    unfold qw
    rw [List.map_map]
    rfl
  rw [va_D_nd] at h ⊢
  rw [e] at h ⊢
  refine ⟨h.1, fun x hx => ?_⟩
  have hm : x.1 ∈ (qw ce N ad cy σ2 ++ X).map Prod.fst := List.mem_map_of_mem hx
  rw [e, ← e σ1] at hm
  obtain ⟨y, hy, hxy⟩ := List.mem_map.mp hm
  rw [← hxy]
  exact h.2 y hy
section MROWS
variable {ce : qCE} {ad0 : Nat → Nat} {cy : Nat → ClassId} {L X : va_W} {A : Nat → Prop} {D : va_G} {p : Program} {l : Launch} {e : Env} {R : Room} {s : State} {m : MethodId} {args : Array Value} {below : List Frame} {meth : Method} {c : Code} {nL kc ks : Nat} {Q : State → Prop}
variable {cc : ByteArray} {own : String} {Ts : List Cond} {ret : Option FieldType} {zs : Nat × Nat × Option Nat} {pc : Nat} {lv lv' : List (Nat × Value)} {st : List Value} {σ : St}
theorem i_toM {h0 : Nat} {σ1 : St} (C : qC ce 0 ad0 cy (L ++ X) A D zs cc nL own Ts p s m args meth c ret) (hL : ∃ ad : Nat → Nat, ad 0 = h0 ∧ L = qw ceM 42 ad cy σ1) (kk : ∀ ad : Nat → Nat, ad 0 = h0 → qC ceM 42 ad cy X A D zs cc nL own Ts p s m args meth c ret → qW ceM 42 ad cy X A D p l e R s m args below meth c nL kc ks Q pc lv st σ1) : qW ce 0 ad0 cy (L ++ X) A D p l e R s m args below meth c nL kc ks Q pc lv st σ := fun H locs ls hP hS hl => by
  obtain ⟨ad, h0e, rfl⟩ := hL
  have hD : va_D A (qw ceM 42 ad cy σ1 ++ X) := C.2.2.2.2.2.2.1 σ
  exact kk ad h0e ⟨C.1, C.2.1, C.2.2.1, C.2.2.2.1, C.2.2.2.2.1, C.2.2.2.2.2.1, fun σ => qw_D σ hD, C.2.2.2.2.2.2.2⟩ H locs ls hP hS hl
theorem i_vretM {ad : Nat → Nat} {r0 : Int32} {σ0 : St} (C : qC ceM 42 ad cy X A D zs cc nL own Ts p s m args meth c none) (hd : decode cc pc = .ok (.return_, 1)) (h : some ((0 : Int32), σ) = some (r0, σ0)) : qW ceM 42 ad cy X A D p l e R s m args below meth c nL kc ks (MQ below (iQ (fun u => qw ceM 42 (fun k => if k = 0 then ad 0 else u k) cy σ0) X A D) args s kc ks A) pc lv [] σ := fun H locs ls hP hS hl => by
  cases h
  have e : (fun k => if k = 0 then ad 0 else ad k) = ad := funext fun k => by
    by_cases q : k = 0
    · rw [if_pos q, q]
    · rw [if_neg q]
  have hD := C.2.2.2.2.2.2.1 σ
  exact W.vret C.1 C.2.1 C.2.2.2.2.2.2.2.1 (fun t ht hW => ⟨⟨ad, rfl, trivial, by show va_P D vwCl (qw ceM 42 (fun k => if k = 0 then ad 0 else ad k) cy σ ++ X) t.heap; rw [ht, e]; exact hP, by show va_D A (qw ceM 42 (fun k => if k = 0 then ad 0 else ad k) cy σ ++ X); rw [e]; exact hD⟩, hS.F ht⟩) hS.2.2 hd C.2.2.2.2.2.2.2.2.1
end MROWS
def μ1 : St := (fun c => if c = 0 then (fun k => if k = 17 then -1 else if k = 49 then -1 else 0) else fun _ => 0, fun _ _ => 0, fun _ => 0)
def fX6_init_L : Nat → Nat → Int32 → St → Option (Int32 × St)
  | 0, _, _, _ => none
  | n + 1, lab, v1, σ => if lab = 0 then (if (36 : Int32) ≤ v1 then (fX6_init_L n 1 (0 : Int32) σ) else (qnz (7 : Int32) (qlet (fun (y677 : Int32) => (qix v1 36 (qlet (sI σ 27 v1.toNatClampNeg y677) (fun σ677 => qlet (v1 + (1 : Int32)) (fun x678 => fX6_init_L n 0 x678 σ677))))) (fun j677 => (if (v1 - v1 / (7 : Int32) * (7 : Int32)) = (0 : Int32) then (j677 (0 : Int32)) else (j677 (-1 : Int32))))))) else (if (6 : Int32) ≤ v1 then (some ((0 : Int32), σ)) else (qix v1 6 (qlet (sI σ 25 v1.toNatClampNeg (-1 : Int32)) (fun σ698 => qlet (v1 + (1 : Int32)) (fun x699 => fX6_init_L n 1 x699 σ698)))))
def fX6_init (σ : St) : Option (Int32 × St) := qcall (fX6_word σ (98 : Int32) (101 : Int32) (103 : Int32) (105 : Int32) (110 : Int32) (0 : Int32) (0 : Int32)) (fun r380 σ380 => qix (0 : Int32) 14 (qlet (sJ σ380 7 (0 : Int32).toNatClampNeg r380) (fun σ383 => qcall (fX6_word σ383 (110 : Int32) (111 : Int32) (116 : Int32) (0 : Int32) (0 : Int32) (0 : Int32) (0 : Int32)) (fun r399 σ399 => qix (1 : Int32) 14 (qlet (sJ σ399 7 (1 : Int32).toNatClampNeg r399) (fun σ402 => qcall (fX6_word σ402 (98 : Int32) (97 : Int32) (99 : Int32) (107 : Int32) (0 : Int32) (0 : Int32) (0 : Int32)) (fun r419 σ419 => qix (2 : Int32) 14 (qlet (sJ σ419 7 (2 : Int32).toNatClampNeg r419) (fun σ422 => qcall (fX6_word σ422 (105 : Int32) (102 : Int32) (0 : Int32) (0 : Int32) (0 : Int32) (0 : Int32) (0 : Int32)) (fun r437 σ437 => qix (3 : Int32) 14 (qlet (sJ σ437 7 (3 : Int32).toNatClampNeg r437) (fun σ440 => qcall (fX6_word σ440 (111 : Int32) (114 : Int32) (0 : Int32) (0 : Int32) (0 : Int32) (0 : Int32) (0 : Int32)) (fun r455 σ455 => qix (4 : Int32) 14 (qlet (sJ σ455 7 (4 : Int32).toNatClampNeg r455) (fun σ458 => qcall (fX6_word σ458 (97 : Int32) (110 : Int32) (100 : Int32) (0 : Int32) (0 : Int32) (0 : Int32) (0 : Int32)) (fun r474 σ474 => qix (5 : Int32) 14 (qlet (sJ σ474 7 (5 : Int32).toNatClampNeg r474) (fun σ477 => qcall (fX6_word σ477 (100 : Int32) (97 : Int32) (121 : Int32) (115 : Int32) (0 : Int32) (0 : Int32) (0 : Int32)) (fun r495 σ495 => qix (6 : Int32) 14 (qlet (sJ σ495 7 (6 : Int32).toNatClampNeg r495) (fun σ498 => qcall (fX6_word σ498 (115 : Int32) (101 : Int32) (101 : Int32) (110 : Int32) (0 : Int32) (0 : Int32) (0 : Int32)) (fun r516 σ516 => qix (7 : Int32) 14 (qlet (sJ σ516 7 (7 : Int32).toNatClampNeg r516) (fun σ519 => qcall (fX6_word σ519 (119 : Int32) (111 : Int32) (114 : Int32) (116 : Int32) (104 : Int32) (0 : Int32) (0 : Int32)) (fun r538 σ538 => qix (8 : Int32) 14 (qlet (sJ σ538 7 (8 : Int32).toNatClampNeg r538) (fun σ541 => qcall (fX6_word σ541 (98 : Int32) (101 : Int32) (115 : Int32) (116 : Int32) (0 : Int32) (0 : Int32) (0 : Int32)) (fun r559 σ559 => qix (9 : Int32) 14 (qlet (sJ σ559 7 (9 : Int32).toNatClampNeg r559) (fun σ562 => qcall (fX6_word σ562 (108 : Int32) (105 : Int32) (103 : Int32) (104 : Int32) (116 : Int32) (0 : Int32) (0 : Int32)) (fun r581 σ581 => qix (10 : Int32) 14 (qlet (sJ σ581 7 (10 : Int32).toNatClampNeg r581) (fun σ584 => qcall (fX6_word σ584 (99 : Int32) (108 : Int32) (111 : Int32) (117 : Int32) (100 : Int32) (0 : Int32) (0 : Int32)) (fun r603 σ603 => qix (11 : Int32) 14 (qlet (sJ σ603 7 (11 : Int32).toNatClampNeg r603) (fun σ606 => qcall (fX6_word σ606 (111 : Int32) (116 : Int32) (104 : Int32) (101 : Int32) (114 : Int32) (115 : Int32) (0 : Int32)) (fun r626 σ626 => qix (12 : Int32) 14 (qlet (sJ σ626 7 (12 : Int32).toNatClampNeg r626) (fun σ629 => qcall (fX6_word σ629 (109 : Int32) (111 : Int32) (110 : Int32) (116 : Int32) (104 : Int32) (0 : Int32) (0 : Int32)) (fun r648 σ648 => qix (13 : Int32) 14 (qlet (sJ σ648 7 (13 : Int32).toNatClampNeg r648) (fun σ651 => fX6_init_L 100000 0 (0 : Int32) σ651))))))))))))))))))))))))))))))))))))))))))
abbrev rmX6_init : Room := { frames := 2, cells := 41, slots := 32498, locals := 48 }
theorem hyX6_init : yX6_init.cls ≠ "java/lang/invoke/MethodHandle" ∧ yX6_init.cls ≠ "java/lang/invoke/VarHandle" ∧ (parseMethodDescriptor yX6_init.desc).map (fun d => d.parameters.length) = some 0 := by decide +kernel
theorem nX6_init_X6 : ∀ w ∈ u_ws RX6 TX6 60, w ∈ wsX6_init := fun w h => List.mem_cons_of_mem _ (List.mem_append_right _ h)
theorem hX6_init_34 : Cond.fieldLink RX6 34 (TX6 9).1 (TX6 9).2.1 (TX6 9).2.2.1 ∈ wsX6_init := by decide +kernel
theorem hX6_init_98 : Cond.fieldLink RX6 98 (TX6 42).1 (TX6 42).2.1 (TX6 42).2.2.1 ∈ wsX6_init := by decide +kernel
theorem hX6_init_92 : Cond.fieldLink RX6 92 (TX6 40).1 (TX6 40).2.1 (TX6 40).2.2.1 ∈ wsX6_init := by decide +kernel
theorem hX6_init_7 : Cond.methodLink RX6 7 objectInit ∈ wsX6_init := by decide +kernel
theorem hX6_init_oi : Cond.instanceMethod objectInit ∈ wsX6_init := by decide +kernel
theorem hX6_init_oc : Cond.code objectInit ⟨#[0xb1]⟩ 1 none ∈ wsX6_init := by decide +kernel
theorem haX6_init_byte : Cond.arrayClass .byte ∈ wsX6_init := by decide +kernel
theorem hX6_init_13 : Cond.fieldLink RX6 13 (TX6 1).1 (TX6 1).2.1 (TX6 1).2.2.1 ∈ wsX6_init := by decide +kernel
theorem hX6_init_17 : Cond.fieldLink RX6 17 (TX6 3).1 (TX6 3).2.1 (TX6 3).2.2.1 ∈ wsX6_init := by decide +kernel
theorem haX6_init_int : Cond.arrayClass .int ∈ wsX6_init := by decide +kernel
theorem hX6_init_20 : Cond.fieldLink RX6 20 (TX6 5).1 (TX6 5).2.1 (TX6 5).2.2.1 ∈ wsX6_init := by decide +kernel
theorem hX6_init_24 : Cond.fieldLink RX6 24 (TX6 6).1 (TX6 6).2.1 (TX6 6).2.2.1 ∈ wsX6_init := by decide +kernel
theorem hX6_init_27 : Cond.fieldLink RX6 27 (TX6 7).1 (TX6 7).2.1 (TX6 7).2.2.1 ∈ wsX6_init := by decide +kernel
theorem haX6_init_long : Cond.arrayClass .long ∈ wsX6_init := by decide +kernel
theorem hX6_init_30 : Cond.fieldLink RX6 30 (TX6 8).1 (TX6 8).2.1 (TX6 8).2.2.1 ∈ wsX6_init := by decide +kernel
theorem hX6_init_37 : Cond.fieldLink RX6 37 (TX6 17).1 (TX6 17).2.1 (TX6 17).2.2.1 ∈ wsX6_init := by decide +kernel
theorem hX6_init_40 : Cond.fieldLink RX6 40 (TX6 18).1 (TX6 18).2.1 (TX6 18).2.2.1 ∈ wsX6_init := by decide +kernel
theorem hX6_init_43 : Cond.fieldLink RX6 43 (TX6 20).1 (TX6 20).2.1 (TX6 20).2.2.1 ∈ wsX6_init := by decide +kernel
theorem hX6_init_46 : Cond.fieldLink RX6 46 (TX6 21).1 (TX6 21).2.1 (TX6 21).2.2.1 ∈ wsX6_init := by decide +kernel
theorem hX6_init_49 : Cond.fieldLink RX6 49 (TX6 22).1 (TX6 22).2.1 (TX6 22).2.2.1 ∈ wsX6_init := by decide +kernel
theorem hX6_init_52 : Cond.fieldLink RX6 52 (TX6 23).1 (TX6 23).2.1 (TX6 23).2.2.1 ∈ wsX6_init := by decide +kernel
theorem hX6_init_55 : Cond.fieldLink RX6 55 (TX6 24).1 (TX6 24).2.1 (TX6 24).2.2.1 ∈ wsX6_init := by decide +kernel
theorem hX6_init_58 : Cond.fieldLink RX6 58 (TX6 25).1 (TX6 25).2.1 (TX6 25).2.2.1 ∈ wsX6_init := by decide +kernel
theorem hX6_init_61 : Cond.fieldLink RX6 61 (TX6 26).1 (TX6 26).2.1 (TX6 26).2.2.1 ∈ wsX6_init := by decide +kernel
theorem hX6_init_64 : Cond.fieldLink RX6 64 (TX6 27).1 (TX6 27).2.1 (TX6 27).2.2.1 ∈ wsX6_init := by decide +kernel
theorem hX6_init_67 : Cond.fieldLink RX6 67 (TX6 28).1 (TX6 28).2.1 (TX6 28).2.2.1 ∈ wsX6_init := by decide +kernel
theorem haX6_init_boolean : Cond.arrayClass .boolean ∈ wsX6_init := by decide +kernel
theorem hX6_init_70 : Cond.fieldLink RX6 70 (TX6 29).1 (TX6 29).2.1 (TX6 29).2.2.1 ∈ wsX6_init := by decide +kernel
theorem hX6_init_74 : Cond.fieldLink RX6 74 (TX6 31).1 (TX6 31).2.1 (TX6 31).2.2.1 ∈ wsX6_init := by decide +kernel
theorem hX6_init_77 : Cond.fieldLink RX6 77 (TX6 32).1 (TX6 32).2.1 (TX6 32).2.2.1 ∈ wsX6_init := by decide +kernel
theorem hX6_init_80 : Cond.fieldLink RX6 80 (TX6 33).1 (TX6 33).2.1 (TX6 33).2.2.1 ∈ wsX6_init := by decide +kernel
theorem hX6_init_83 : Cond.fieldLink RX6 83 (TX6 36).1 (TX6 36).2.1 (TX6 36).2.2.1 ∈ wsX6_init := by decide +kernel
theorem hX6_init_86 : Cond.fieldLink RX6 86 (TX6 38).1 (TX6 38).2.1 (TX6 38).2.2.1 ∈ wsX6_init := by decide +kernel
theorem hX6_init_89 : Cond.fieldLink RX6 89 (TX6 39).1 (TX6 39).2.1 (TX6 39).2.2.1 ∈ wsX6_init := by decide +kernel
theorem hX6_init_95 : Cond.fieldLink RX6 95 (TX6 41).1 (TX6 41).2.1 (TX6 41).2.2.1 ∈ wsX6_init := by decide +kernel
theorem hX6_init_101 : Cond.fieldLink RX6 101 (TX6 44).1 (TX6 44).2.1 (TX6 44).2.2.1 ∈ wsX6_init := by decide +kernel
theorem hX6_init_104 : Cond.fieldLink RX6 104 (TX6 46).1 (TX6 46).2.1 (TX6 46).2.2.1 ∈ wsX6_init := by decide +kernel
theorem hX6_init_107 : Cond.fieldLink RX6 107 (TX6 47).1 (TX6 47).2.1 (TX6 47).2.2.1 ∈ wsX6_init := by decide +kernel
theorem hX6_init_110 : Cond.fieldLink RX6 110 (TX6 48).1 (TX6 48).2.1 (TX6 48).2.2.1 ∈ wsX6_init := by decide +kernel
theorem hX6_init_113 : Cond.fieldLink RX6 113 (TX6 49).1 (TX6 49).2.1 (TX6 49).2.2.1 ∈ wsX6_init := by decide +kernel
theorem hX6_init_116 : Cond.fieldLink RX6 116 (TX6 50).1 (TX6 50).2.1 (TX6 50).2.2.1 ∈ wsX6_init := by decide +kernel
theorem hX6_init_119 : Cond.fieldLink RX6 119 (TX6 51).1 (TX6 51).2.1 (TX6 51).2.2.1 ∈ wsX6_init := by decide +kernel
theorem hX6_init_122 : Cond.fieldLink RX6 122 (TX6 52).1 (TX6 52).2.1 (TX6 52).2.2.1 ∈ wsX6_init := by decide +kernel
theorem hX6_init_125 : Cond.fieldLink RX6 125 (TX6 53).1 (TX6 53).2.1 (TX6 53).2.2.1 ∈ wsX6_init := by decide +kernel
theorem hX6_init_128 : Cond.fieldLink RX6 128 (TX6 54).1 (TX6 54).2.1 (TX6 54).2.2.1 ∈ wsX6_init := by decide +kernel
theorem hX6_init_131 : Cond.fieldLink RX6 131 (TX6 55).1 (TX6 55).2.1 (TX6 55).2.2.1 ∈ wsX6_init := by decide +kernel
theorem hX6_init_134 : Cond.fieldLink RX6 134 (TX6 56).1 (TX6 56).2.1 (TX6 56).2.2.1 ∈ wsX6_init := by decide +kernel
theorem hX6_init_137 : Cond.fieldLink RX6 137 (TX6 57).1 (TX6 57).2.1 (TX6 57).2.2.1 ∈ wsX6_init := by decide +kernel
theorem hX6_init_140 : Cond.fieldLink RX6 140 (TX6 58).1 (TX6 58).2.1 (TX6 58).2.2.1 ∈ wsX6_init := by decide +kernel
theorem hX6_init_143 : Cond.fieldLink RX6 143 (TX6 59).1 (TX6 59).2.1 (TX6 59).2.2.1 ∈ wsX6_init := by decide +kernel
set_option maxHeartbeats 4000000 in
set_option maxRecDepth 100000 in
theorem kX6_init_L {ad : Nat → Nat} {cy : Nat → ClassId} {X : va_W} {A : Nat → Prop} {D : va_G} {zs : Nat × Nat × Option Nat} {p : Program} {l : Launch} {e : Env} {s : State} {m : MethodId} {args : Array Value} {below : List Frame} {meth : Method} {c : Code} (C : qC ceM 42 ad cy X A D zs cX6_init 2 RX6 wsX6_init p s m args meth c none) (r0 : Int32) (σ0 : St) (n : Nat) : (∀ (v1 : Int32) (σ : St), fX6_init_L n 0 v1 σ = some (r0, σ0) → qW ceM 42 ad cy X A D p l e (headSpec wsX6_init rmX6_init).room s m args below meth c 2 41 32498 (MQ below (iQ (fun u => qw ceM 42 (fun k => if k = 0 then ad 0 else u k) cy σ0) X A D) args s 41 32498 A) 654 [(0, .ref (ad 0)), (1, .int v1)] [] σ) ∧ (∀ (v1 : Int32) (σ : St), fX6_init_L n 1 v1 σ = some (r0, σ0) → qW ceM 42 ad cy X A D p l e (headSpec wsX6_init rmX6_init).room s m args below meth c 2 41 32498 (MQ below (iQ (fun u => qw ceM 42 (fun k => if k = 0 then ad 0 else u k) cy σ0) X A D) args s 41 32498 A) 686 [(0, .ref (ad 0)), (1, .int v1)] [] σ) := by
  induction n with
  | zero =>
    refine ⟨?_, ?_⟩
    · intro v1 σ h; cases h
    · intro v1 σ h; cases h
  | succ n ih =>
    refine ⟨?_, ?_⟩
    · intro v1 σ h
      rw [fX6_init_L] at h
      rw [if_pos rfl] at h
      refine q_iload_n C dX6_init_654 rfl 1 rfl ?_
      refine q_bipush C (v := 36) dX6_init_655 (by decide) ?_
      refine q_icmp_ge C (tgt := 684) dX6_init_657 (by decide) h (fun h => ?_) (fun h => ?_)
      · refine q_iconst C (v := 0) dX6_init_684 (by decide) ?_
        refine q_istore_n C dX6_init_685 rfl (by decide) (lv' := [(0, .ref (ad 0)), (1, .int (0 : Int32))]) rfl ?_
        exact q_sub [0, 1] rfl (ih.2 (0 : Int32) σ h)
      · refine q_aload_n C dX6_init_660 rfl 0 rfl ?_
        refine q_get C (Cn := RX6) (T := TX6) (Nf := 60) (ci := 6) (id := 0) (k := 42) (v := .ref (ad 27)) nX6_init_X6 (by decide) (ceM_0 ad cy _ _ _) rfl (by decide) rfl hX6_init_98 dX6_init_661 ?_
        refine q_iload_n C dX6_init_664 rfl 1 rfl ?_
        refine q_iload_n C dX6_init_665 rfl 1 rfl ?_
        refine q_bipush C (v := 7) dX6_init_666 (by decide) ?_
        refine q_irem C dX6_init_668 h (fun h => ?_)
        refine q_join (G := fun (y677 : Int32) => qW ceM 42 ad cy X A D p l e (headSpec wsX6_init rmX6_init).room s m args below meth c 2 41 32498 (MQ below (iQ (fun u => qw ceM 42 (fun k => if k = 0 then ad 0 else u k) cy σ0) X A D) args s 41 32498 A) 677 [(0, .ref (ad 0)), (1, .int v1)] [.int y677, .int v1, .ref (ad 27)] σ) h (fun y677 h => ?_) (fun j677 hj677 h => ?_)
        · refine q_iast C (id := 27) (by decide) (fun f g => ceM_27 ad cy _ f g) dX6_init_677 h (fun σ677 h => ?_)
          refine q_iincL C dX6_init_678 1 rfl (by decide) (nv := 1) (by decide) h (lw := fun x678 => [(0, .ref (ad 0)), (1, .int x678)]) (fun _ => rfl) (fun x678 h => ?_)
          refine q_goto C (tgt := 654) dX6_init_681 (by decide) ?_
          exact q_sub [0, 1] rfl (ih.1 x678 σ677 h)
        refine q_if_ne C (tgt := 676) dX6_init_669 (by decide) h (fun h => ?_) (fun h => ?_)
        · refine q_iconst C (v := -1) dX6_init_676 (by decide) ?_
          exact q_sub [0, 1] rfl (hj677 (-1 : Int32) h)
        · refine q_iconst C (v := 0) dX6_init_672 (by decide) ?_
          refine q_goto C (tgt := 677) dX6_init_673 (by decide) ?_
          exact q_sub [0, 1] rfl (hj677 (0 : Int32) h)
    · intro v1 σ h
      rw [fX6_init_L] at h
      rw [if_neg (by decide)] at h
      refine q_iload_n C dX6_init_686 rfl 1 rfl ?_
      refine q_bipush C (v := 6) dX6_init_687 (by decide) ?_
      refine q_icmp_ge C (tgt := 705) dX6_init_689 (by decide) h (fun h => ?_) (fun h => ?_)
      · exact i_vretM C (r0 := r0) dX6_init_705 h
      · refine q_aload_n C dX6_init_692 rfl 0 rfl ?_
        refine q_get C (Cn := RX6) (T := TX6) (Nf := 60) (ci := 6) (id := 0) (k := 40) (v := .ref (ad 25)) nX6_init_X6 (by decide) (ceM_0 ad cy _ _ _) rfl (by decide) rfl hX6_init_92 dX6_init_693 ?_
        refine q_iload_n C dX6_init_696 rfl 1 rfl ?_
        refine q_iconst C (v := -1) dX6_init_697 (by decide) ?_
        refine q_iast C (id := 25) (by decide) (fun f g => ceM_25 ad cy _ f g) dX6_init_698 h (fun σ698 h => ?_)
        refine q_iincL C dX6_init_699 1 rfl (by decide) (nv := 1) (by decide) h (lw := fun x699 => [(0, .ref (ad 0)), (1, .int x699)]) (fun _ => rfl) (fun x699 h => ?_)
        refine q_goto C (tgt := 686) dX6_init_702 (by decide) ?_
        exact q_sub [0, 1] rfl (ih.2 x699 σ698 h)
set_option maxHeartbeats 8000000 in
set_option maxRecDepth 100000 in
theorem tX6_init {ad : Nat → Nat} {cy : Nat → ClassId} {X : va_W} {A : Nat → Prop} {D : va_G} {zs : Nat × Nat × Option Nat} {p : Program} {l : Launch} {e : Env} {s : State} {m : MethodId} {args : Array Value} {below : List Frame} {meth : Method} {c : Code} (C : qC ceM 42 ad cy X A D zs cX6_init 2 RX6 wsX6_init p s m args meth c none) (r0 : Int32) (σ σ0 : St) (h : fX6_init σ = some (r0, σ0)) : qW ceM 42 ad cy X A D p l e (headSpec wsX6_init rmX6_init).room s m args below meth c 2 41 32498 (MQ below (iQ (fun u => qw ceM 42 (fun k => if k = 0 then ad 0 else u k) cy σ0) X A D) args s 41 32498 A) 363 [(0, .ref (ad 0))] [] σ := by
  unfold fX6_init at h
  refine q_aload_n C dX6_init_363 rfl 0 rfl ?_
  refine q_get C (Cn := RX6) (T := TX6) (Nf := 60) (ci := 6) (id := 0) (k := 9) (v := .ref (ad 7)) nX6_init_X6 (by decide) (ceM_0 ad cy _ _ _) rfl (by decide) rfl hX6_init_34 dX6_init_364 ?_
  refine q_iconst C (v := 0) dX6_init_367 (by decide) ?_
  refine q_bipush C (v := 98) dX6_init_368 (by decide) ?_
  refine q_bipush C (v := 101) dX6_init_370 (by decide) ?_
  refine q_bipush C (v := 103) dX6_init_372 (by decide) ?_
  refine q_bipush C (v := 105) dX6_init_374 (by decide) ?_
  refine q_bipush C (v := 110) dX6_init_376 (by decide) ?_
  refine q_iconst C (v := 0) dX6_init_378 (by decide) ?_
  refine q_iconst C (v := 0) dX6_init_379 (by decide) ?_
  refine q_callSl C (rm := rmX6_word) (As := [.int (98 : Int32), .int (101 : Int32), .int (103 : Int32), .int (105 : Int32), .int (110 : Int32), .int (0 : Int32), .int (0 : Int32)]) (rest := [.int (0 : Int32), .ref (ad 7)]) (fun r9 σ9 h9 => kX6_word l D ad cy X A zs σ (98 : Int32) (101 : Int32) (103 : Int32) (105 : Int32) (110 : Int32) (0 : Int32) (0 : Int32) r9 σ9 h9) gX6_init_X6_word rfl rfl rfl hyX6_word ⟨Nat.le_of_ble_eq_true rfl, Nat.le_of_ble_eq_true rfl⟩ rfl rfl (Nat.le_of_ble_eq_true rfl) dX6_init_380 ⟨Nat.le_of_ble_eq_true rfl, Nat.le_of_ble_eq_true rfl⟩ h (fun r380 σ380 h => ?_)
  refine q_last C (id := 7) (by decide) (fun f g => ceM_7 ad cy _ f g) dX6_init_383 h (fun σ383 h => ?_)
  refine q_aload_n C dX6_init_384 rfl 0 rfl ?_
  refine q_get C (Cn := RX6) (T := TX6) (Nf := 60) (ci := 6) (id := 0) (k := 9) (v := .ref (ad 7)) nX6_init_X6 (by decide) (ceM_0 ad cy _ _ _) rfl (by decide) rfl hX6_init_34 dX6_init_385 ?_
  refine q_iconst C (v := 1) dX6_init_388 (by decide) ?_
  refine q_bipush C (v := 110) dX6_init_389 (by decide) ?_
  refine q_bipush C (v := 111) dX6_init_391 (by decide) ?_
  refine q_bipush C (v := 116) dX6_init_393 (by decide) ?_
  refine q_iconst C (v := 0) dX6_init_395 (by decide) ?_
  refine q_iconst C (v := 0) dX6_init_396 (by decide) ?_
  refine q_iconst C (v := 0) dX6_init_397 (by decide) ?_
  refine q_iconst C (v := 0) dX6_init_398 (by decide) ?_
  refine q_callSl C (rm := rmX6_word) (As := [.int (110 : Int32), .int (111 : Int32), .int (116 : Int32), .int (0 : Int32), .int (0 : Int32), .int (0 : Int32), .int (0 : Int32)]) (rest := [.int (1 : Int32), .ref (ad 7)]) (fun r9 σ9 h9 => kX6_word l D ad cy X A zs σ383 (110 : Int32) (111 : Int32) (116 : Int32) (0 : Int32) (0 : Int32) (0 : Int32) (0 : Int32) r9 σ9 h9) gX6_init_X6_word rfl rfl rfl hyX6_word ⟨Nat.le_of_ble_eq_true rfl, Nat.le_of_ble_eq_true rfl⟩ rfl rfl (Nat.le_of_ble_eq_true rfl) dX6_init_399 ⟨Nat.le_of_ble_eq_true rfl, Nat.le_of_ble_eq_true rfl⟩ h (fun r399 σ399 h => ?_)
  refine q_last C (id := 7) (by decide) (fun f g => ceM_7 ad cy _ f g) dX6_init_402 h (fun σ402 h => ?_)
  refine q_aload_n C dX6_init_403 rfl 0 rfl ?_
  refine q_get C (Cn := RX6) (T := TX6) (Nf := 60) (ci := 6) (id := 0) (k := 9) (v := .ref (ad 7)) nX6_init_X6 (by decide) (ceM_0 ad cy _ _ _) rfl (by decide) rfl hX6_init_34 dX6_init_404 ?_
  refine q_iconst C (v := 2) dX6_init_407 (by decide) ?_
  refine q_bipush C (v := 98) dX6_init_408 (by decide) ?_
  refine q_bipush C (v := 97) dX6_init_410 (by decide) ?_
  refine q_bipush C (v := 99) dX6_init_412 (by decide) ?_
  refine q_bipush C (v := 107) dX6_init_414 (by decide) ?_
  refine q_iconst C (v := 0) dX6_init_416 (by decide) ?_
  refine q_iconst C (v := 0) dX6_init_417 (by decide) ?_
  refine q_iconst C (v := 0) dX6_init_418 (by decide) ?_
  refine q_callSl C (rm := rmX6_word) (As := [.int (98 : Int32), .int (97 : Int32), .int (99 : Int32), .int (107 : Int32), .int (0 : Int32), .int (0 : Int32), .int (0 : Int32)]) (rest := [.int (2 : Int32), .ref (ad 7)]) (fun r9 σ9 h9 => kX6_word l D ad cy X A zs σ402 (98 : Int32) (97 : Int32) (99 : Int32) (107 : Int32) (0 : Int32) (0 : Int32) (0 : Int32) r9 σ9 h9) gX6_init_X6_word rfl rfl rfl hyX6_word ⟨Nat.le_of_ble_eq_true rfl, Nat.le_of_ble_eq_true rfl⟩ rfl rfl (Nat.le_of_ble_eq_true rfl) dX6_init_419 ⟨Nat.le_of_ble_eq_true rfl, Nat.le_of_ble_eq_true rfl⟩ h (fun r419 σ419 h => ?_)
  refine q_last C (id := 7) (by decide) (fun f g => ceM_7 ad cy _ f g) dX6_init_422 h (fun σ422 h => ?_)
  refine q_aload_n C dX6_init_423 rfl 0 rfl ?_
  refine q_get C (Cn := RX6) (T := TX6) (Nf := 60) (ci := 6) (id := 0) (k := 9) (v := .ref (ad 7)) nX6_init_X6 (by decide) (ceM_0 ad cy _ _ _) rfl (by decide) rfl hX6_init_34 dX6_init_424 ?_
  refine q_iconst C (v := 3) dX6_init_427 (by decide) ?_
  refine q_bipush C (v := 105) dX6_init_428 (by decide) ?_
  refine q_bipush C (v := 102) dX6_init_430 (by decide) ?_
  refine q_iconst C (v := 0) dX6_init_432 (by decide) ?_
  refine q_iconst C (v := 0) dX6_init_433 (by decide) ?_
  refine q_iconst C (v := 0) dX6_init_434 (by decide) ?_
  refine q_iconst C (v := 0) dX6_init_435 (by decide) ?_
  refine q_iconst C (v := 0) dX6_init_436 (by decide) ?_
  refine q_callSl C (rm := rmX6_word) (As := [.int (105 : Int32), .int (102 : Int32), .int (0 : Int32), .int (0 : Int32), .int (0 : Int32), .int (0 : Int32), .int (0 : Int32)]) (rest := [.int (3 : Int32), .ref (ad 7)]) (fun r9 σ9 h9 => kX6_word l D ad cy X A zs σ422 (105 : Int32) (102 : Int32) (0 : Int32) (0 : Int32) (0 : Int32) (0 : Int32) (0 : Int32) r9 σ9 h9) gX6_init_X6_word rfl rfl rfl hyX6_word ⟨Nat.le_of_ble_eq_true rfl, Nat.le_of_ble_eq_true rfl⟩ rfl rfl (Nat.le_of_ble_eq_true rfl) dX6_init_437 ⟨Nat.le_of_ble_eq_true rfl, Nat.le_of_ble_eq_true rfl⟩ h (fun r437 σ437 h => ?_)
  refine q_last C (id := 7) (by decide) (fun f g => ceM_7 ad cy _ f g) dX6_init_440 h (fun σ440 h => ?_)
  refine q_aload_n C dX6_init_441 rfl 0 rfl ?_
  refine q_get C (Cn := RX6) (T := TX6) (Nf := 60) (ci := 6) (id := 0) (k := 9) (v := .ref (ad 7)) nX6_init_X6 (by decide) (ceM_0 ad cy _ _ _) rfl (by decide) rfl hX6_init_34 dX6_init_442 ?_
  refine q_iconst C (v := 4) dX6_init_445 (by decide) ?_
  refine q_bipush C (v := 111) dX6_init_446 (by decide) ?_
  refine q_bipush C (v := 114) dX6_init_448 (by decide) ?_
  refine q_iconst C (v := 0) dX6_init_450 (by decide) ?_
  refine q_iconst C (v := 0) dX6_init_451 (by decide) ?_
  refine q_iconst C (v := 0) dX6_init_452 (by decide) ?_
  refine q_iconst C (v := 0) dX6_init_453 (by decide) ?_
  refine q_iconst C (v := 0) dX6_init_454 (by decide) ?_
  refine q_callSl C (rm := rmX6_word) (As := [.int (111 : Int32), .int (114 : Int32), .int (0 : Int32), .int (0 : Int32), .int (0 : Int32), .int (0 : Int32), .int (0 : Int32)]) (rest := [.int (4 : Int32), .ref (ad 7)]) (fun r9 σ9 h9 => kX6_word l D ad cy X A zs σ440 (111 : Int32) (114 : Int32) (0 : Int32) (0 : Int32) (0 : Int32) (0 : Int32) (0 : Int32) r9 σ9 h9) gX6_init_X6_word rfl rfl rfl hyX6_word ⟨Nat.le_of_ble_eq_true rfl, Nat.le_of_ble_eq_true rfl⟩ rfl rfl (Nat.le_of_ble_eq_true rfl) dX6_init_455 ⟨Nat.le_of_ble_eq_true rfl, Nat.le_of_ble_eq_true rfl⟩ h (fun r455 σ455 h => ?_)
  refine q_last C (id := 7) (by decide) (fun f g => ceM_7 ad cy _ f g) dX6_init_458 h (fun σ458 h => ?_)
  refine q_aload_n C dX6_init_459 rfl 0 rfl ?_
  refine q_get C (Cn := RX6) (T := TX6) (Nf := 60) (ci := 6) (id := 0) (k := 9) (v := .ref (ad 7)) nX6_init_X6 (by decide) (ceM_0 ad cy _ _ _) rfl (by decide) rfl hX6_init_34 dX6_init_460 ?_
  refine q_iconst C (v := 5) dX6_init_463 (by decide) ?_
  refine q_bipush C (v := 97) dX6_init_464 (by decide) ?_
  refine q_bipush C (v := 110) dX6_init_466 (by decide) ?_
  refine q_bipush C (v := 100) dX6_init_468 (by decide) ?_
  refine q_iconst C (v := 0) dX6_init_470 (by decide) ?_
  refine q_iconst C (v := 0) dX6_init_471 (by decide) ?_
  refine q_iconst C (v := 0) dX6_init_472 (by decide) ?_
  refine q_iconst C (v := 0) dX6_init_473 (by decide) ?_
  refine q_callSl C (rm := rmX6_word) (As := [.int (97 : Int32), .int (110 : Int32), .int (100 : Int32), .int (0 : Int32), .int (0 : Int32), .int (0 : Int32), .int (0 : Int32)]) (rest := [.int (5 : Int32), .ref (ad 7)]) (fun r9 σ9 h9 => kX6_word l D ad cy X A zs σ458 (97 : Int32) (110 : Int32) (100 : Int32) (0 : Int32) (0 : Int32) (0 : Int32) (0 : Int32) r9 σ9 h9) gX6_init_X6_word rfl rfl rfl hyX6_word ⟨Nat.le_of_ble_eq_true rfl, Nat.le_of_ble_eq_true rfl⟩ rfl rfl (Nat.le_of_ble_eq_true rfl) dX6_init_474 ⟨Nat.le_of_ble_eq_true rfl, Nat.le_of_ble_eq_true rfl⟩ h (fun r474 σ474 h => ?_)
  refine q_last C (id := 7) (by decide) (fun f g => ceM_7 ad cy _ f g) dX6_init_477 h (fun σ477 h => ?_)
  refine q_aload_n C dX6_init_478 rfl 0 rfl ?_
  refine q_get C (Cn := RX6) (T := TX6) (Nf := 60) (ci := 6) (id := 0) (k := 9) (v := .ref (ad 7)) nX6_init_X6 (by decide) (ceM_0 ad cy _ _ _) rfl (by decide) rfl hX6_init_34 dX6_init_479 ?_
  refine q_bipush C (v := 6) dX6_init_482 (by decide) ?_
  refine q_bipush C (v := 100) dX6_init_484 (by decide) ?_
  refine q_bipush C (v := 97) dX6_init_486 (by decide) ?_
  refine q_bipush C (v := 121) dX6_init_488 (by decide) ?_
  refine q_bipush C (v := 115) dX6_init_490 (by decide) ?_
  refine q_iconst C (v := 0) dX6_init_492 (by decide) ?_
  refine q_iconst C (v := 0) dX6_init_493 (by decide) ?_
  refine q_iconst C (v := 0) dX6_init_494 (by decide) ?_
  refine q_callSl C (rm := rmX6_word) (As := [.int (100 : Int32), .int (97 : Int32), .int (121 : Int32), .int (115 : Int32), .int (0 : Int32), .int (0 : Int32), .int (0 : Int32)]) (rest := [.int (6 : Int32), .ref (ad 7)]) (fun r9 σ9 h9 => kX6_word l D ad cy X A zs σ477 (100 : Int32) (97 : Int32) (121 : Int32) (115 : Int32) (0 : Int32) (0 : Int32) (0 : Int32) r9 σ9 h9) gX6_init_X6_word rfl rfl rfl hyX6_word ⟨Nat.le_of_ble_eq_true rfl, Nat.le_of_ble_eq_true rfl⟩ rfl rfl (Nat.le_of_ble_eq_true rfl) dX6_init_495 ⟨Nat.le_of_ble_eq_true rfl, Nat.le_of_ble_eq_true rfl⟩ h (fun r495 σ495 h => ?_)
  refine q_last C (id := 7) (by decide) (fun f g => ceM_7 ad cy _ f g) dX6_init_498 h (fun σ498 h => ?_)
  refine q_aload_n C dX6_init_499 rfl 0 rfl ?_
  refine q_get C (Cn := RX6) (T := TX6) (Nf := 60) (ci := 6) (id := 0) (k := 9) (v := .ref (ad 7)) nX6_init_X6 (by decide) (ceM_0 ad cy _ _ _) rfl (by decide) rfl hX6_init_34 dX6_init_500 ?_
  refine q_bipush C (v := 7) dX6_init_503 (by decide) ?_
  refine q_bipush C (v := 115) dX6_init_505 (by decide) ?_
  refine q_bipush C (v := 101) dX6_init_507 (by decide) ?_
  refine q_bipush C (v := 101) dX6_init_509 (by decide) ?_
  refine q_bipush C (v := 110) dX6_init_511 (by decide) ?_
  refine q_iconst C (v := 0) dX6_init_513 (by decide) ?_
  refine q_iconst C (v := 0) dX6_init_514 (by decide) ?_
  refine q_iconst C (v := 0) dX6_init_515 (by decide) ?_
  refine q_callSl C (rm := rmX6_word) (As := [.int (115 : Int32), .int (101 : Int32), .int (101 : Int32), .int (110 : Int32), .int (0 : Int32), .int (0 : Int32), .int (0 : Int32)]) (rest := [.int (7 : Int32), .ref (ad 7)]) (fun r9 σ9 h9 => kX6_word l D ad cy X A zs σ498 (115 : Int32) (101 : Int32) (101 : Int32) (110 : Int32) (0 : Int32) (0 : Int32) (0 : Int32) r9 σ9 h9) gX6_init_X6_word rfl rfl rfl hyX6_word ⟨Nat.le_of_ble_eq_true rfl, Nat.le_of_ble_eq_true rfl⟩ rfl rfl (Nat.le_of_ble_eq_true rfl) dX6_init_516 ⟨Nat.le_of_ble_eq_true rfl, Nat.le_of_ble_eq_true rfl⟩ h (fun r516 σ516 h => ?_)
  refine q_last C (id := 7) (by decide) (fun f g => ceM_7 ad cy _ f g) dX6_init_519 h (fun σ519 h => ?_)
  refine q_aload_n C dX6_init_520 rfl 0 rfl ?_
  refine q_get C (Cn := RX6) (T := TX6) (Nf := 60) (ci := 6) (id := 0) (k := 9) (v := .ref (ad 7)) nX6_init_X6 (by decide) (ceM_0 ad cy _ _ _) rfl (by decide) rfl hX6_init_34 dX6_init_521 ?_
  refine q_bipush C (v := 8) dX6_init_524 (by decide) ?_
  refine q_bipush C (v := 119) dX6_init_526 (by decide) ?_
  refine q_bipush C (v := 111) dX6_init_528 (by decide) ?_
  refine q_bipush C (v := 114) dX6_init_530 (by decide) ?_
  refine q_bipush C (v := 116) dX6_init_532 (by decide) ?_
  refine q_bipush C (v := 104) dX6_init_534 (by decide) ?_
  refine q_iconst C (v := 0) dX6_init_536 (by decide) ?_
  refine q_iconst C (v := 0) dX6_init_537 (by decide) ?_
  refine q_callSl C (rm := rmX6_word) (As := [.int (119 : Int32), .int (111 : Int32), .int (114 : Int32), .int (116 : Int32), .int (104 : Int32), .int (0 : Int32), .int (0 : Int32)]) (rest := [.int (8 : Int32), .ref (ad 7)]) (fun r9 σ9 h9 => kX6_word l D ad cy X A zs σ519 (119 : Int32) (111 : Int32) (114 : Int32) (116 : Int32) (104 : Int32) (0 : Int32) (0 : Int32) r9 σ9 h9) gX6_init_X6_word rfl rfl rfl hyX6_word ⟨Nat.le_of_ble_eq_true rfl, Nat.le_of_ble_eq_true rfl⟩ rfl rfl (Nat.le_of_ble_eq_true rfl) dX6_init_538 ⟨Nat.le_of_ble_eq_true rfl, Nat.le_of_ble_eq_true rfl⟩ h (fun r538 σ538 h => ?_)
  refine q_last C (id := 7) (by decide) (fun f g => ceM_7 ad cy _ f g) dX6_init_541 h (fun σ541 h => ?_)
  refine q_aload_n C dX6_init_542 rfl 0 rfl ?_
  refine q_get C (Cn := RX6) (T := TX6) (Nf := 60) (ci := 6) (id := 0) (k := 9) (v := .ref (ad 7)) nX6_init_X6 (by decide) (ceM_0 ad cy _ _ _) rfl (by decide) rfl hX6_init_34 dX6_init_543 ?_
  refine q_bipush C (v := 9) dX6_init_546 (by decide) ?_
  refine q_bipush C (v := 98) dX6_init_548 (by decide) ?_
  refine q_bipush C (v := 101) dX6_init_550 (by decide) ?_
  refine q_bipush C (v := 115) dX6_init_552 (by decide) ?_
  refine q_bipush C (v := 116) dX6_init_554 (by decide) ?_
  refine q_iconst C (v := 0) dX6_init_556 (by decide) ?_
  refine q_iconst C (v := 0) dX6_init_557 (by decide) ?_
  refine q_iconst C (v := 0) dX6_init_558 (by decide) ?_
  refine q_callSl C (rm := rmX6_word) (As := [.int (98 : Int32), .int (101 : Int32), .int (115 : Int32), .int (116 : Int32), .int (0 : Int32), .int (0 : Int32), .int (0 : Int32)]) (rest := [.int (9 : Int32), .ref (ad 7)]) (fun r9 σ9 h9 => kX6_word l D ad cy X A zs σ541 (98 : Int32) (101 : Int32) (115 : Int32) (116 : Int32) (0 : Int32) (0 : Int32) (0 : Int32) r9 σ9 h9) gX6_init_X6_word rfl rfl rfl hyX6_word ⟨Nat.le_of_ble_eq_true rfl, Nat.le_of_ble_eq_true rfl⟩ rfl rfl (Nat.le_of_ble_eq_true rfl) dX6_init_559 ⟨Nat.le_of_ble_eq_true rfl, Nat.le_of_ble_eq_true rfl⟩ h (fun r559 σ559 h => ?_)
  refine q_last C (id := 7) (by decide) (fun f g => ceM_7 ad cy _ f g) dX6_init_562 h (fun σ562 h => ?_)
  refine q_aload_n C dX6_init_563 rfl 0 rfl ?_
  refine q_get C (Cn := RX6) (T := TX6) (Nf := 60) (ci := 6) (id := 0) (k := 9) (v := .ref (ad 7)) nX6_init_X6 (by decide) (ceM_0 ad cy _ _ _) rfl (by decide) rfl hX6_init_34 dX6_init_564 ?_
  refine q_bipush C (v := 10) dX6_init_567 (by decide) ?_
  refine q_bipush C (v := 108) dX6_init_569 (by decide) ?_
  refine q_bipush C (v := 105) dX6_init_571 (by decide) ?_
  refine q_bipush C (v := 103) dX6_init_573 (by decide) ?_
  refine q_bipush C (v := 104) dX6_init_575 (by decide) ?_
  refine q_bipush C (v := 116) dX6_init_577 (by decide) ?_
  refine q_iconst C (v := 0) dX6_init_579 (by decide) ?_
  refine q_iconst C (v := 0) dX6_init_580 (by decide) ?_
  refine q_callSl C (rm := rmX6_word) (As := [.int (108 : Int32), .int (105 : Int32), .int (103 : Int32), .int (104 : Int32), .int (116 : Int32), .int (0 : Int32), .int (0 : Int32)]) (rest := [.int (10 : Int32), .ref (ad 7)]) (fun r9 σ9 h9 => kX6_word l D ad cy X A zs σ562 (108 : Int32) (105 : Int32) (103 : Int32) (104 : Int32) (116 : Int32) (0 : Int32) (0 : Int32) r9 σ9 h9) gX6_init_X6_word rfl rfl rfl hyX6_word ⟨Nat.le_of_ble_eq_true rfl, Nat.le_of_ble_eq_true rfl⟩ rfl rfl (Nat.le_of_ble_eq_true rfl) dX6_init_581 ⟨Nat.le_of_ble_eq_true rfl, Nat.le_of_ble_eq_true rfl⟩ h (fun r581 σ581 h => ?_)
  refine q_last C (id := 7) (by decide) (fun f g => ceM_7 ad cy _ f g) dX6_init_584 h (fun σ584 h => ?_)
  refine q_aload_n C dX6_init_585 rfl 0 rfl ?_
  refine q_get C (Cn := RX6) (T := TX6) (Nf := 60) (ci := 6) (id := 0) (k := 9) (v := .ref (ad 7)) nX6_init_X6 (by decide) (ceM_0 ad cy _ _ _) rfl (by decide) rfl hX6_init_34 dX6_init_586 ?_
  refine q_bipush C (v := 11) dX6_init_589 (by decide) ?_
  refine q_bipush C (v := 99) dX6_init_591 (by decide) ?_
  refine q_bipush C (v := 108) dX6_init_593 (by decide) ?_
  refine q_bipush C (v := 111) dX6_init_595 (by decide) ?_
  refine q_bipush C (v := 117) dX6_init_597 (by decide) ?_
  refine q_bipush C (v := 100) dX6_init_599 (by decide) ?_
  refine q_iconst C (v := 0) dX6_init_601 (by decide) ?_
  refine q_iconst C (v := 0) dX6_init_602 (by decide) ?_
  refine q_callSl C (rm := rmX6_word) (As := [.int (99 : Int32), .int (108 : Int32), .int (111 : Int32), .int (117 : Int32), .int (100 : Int32), .int (0 : Int32), .int (0 : Int32)]) (rest := [.int (11 : Int32), .ref (ad 7)]) (fun r9 σ9 h9 => kX6_word l D ad cy X A zs σ584 (99 : Int32) (108 : Int32) (111 : Int32) (117 : Int32) (100 : Int32) (0 : Int32) (0 : Int32) r9 σ9 h9) gX6_init_X6_word rfl rfl rfl hyX6_word ⟨Nat.le_of_ble_eq_true rfl, Nat.le_of_ble_eq_true rfl⟩ rfl rfl (Nat.le_of_ble_eq_true rfl) dX6_init_603 ⟨Nat.le_of_ble_eq_true rfl, Nat.le_of_ble_eq_true rfl⟩ h (fun r603 σ603 h => ?_)
  refine q_last C (id := 7) (by decide) (fun f g => ceM_7 ad cy _ f g) dX6_init_606 h (fun σ606 h => ?_)
  refine q_aload_n C dX6_init_607 rfl 0 rfl ?_
  refine q_get C (Cn := RX6) (T := TX6) (Nf := 60) (ci := 6) (id := 0) (k := 9) (v := .ref (ad 7)) nX6_init_X6 (by decide) (ceM_0 ad cy _ _ _) rfl (by decide) rfl hX6_init_34 dX6_init_608 ?_
  refine q_bipush C (v := 12) dX6_init_611 (by decide) ?_
  refine q_bipush C (v := 111) dX6_init_613 (by decide) ?_
  refine q_bipush C (v := 116) dX6_init_615 (by decide) ?_
  refine q_bipush C (v := 104) dX6_init_617 (by decide) ?_
  refine q_bipush C (v := 101) dX6_init_619 (by decide) ?_
  refine q_bipush C (v := 114) dX6_init_621 (by decide) ?_
  refine q_bipush C (v := 115) dX6_init_623 (by decide) ?_
  refine q_iconst C (v := 0) dX6_init_625 (by decide) ?_
  refine q_callSl C (rm := rmX6_word) (As := [.int (111 : Int32), .int (116 : Int32), .int (104 : Int32), .int (101 : Int32), .int (114 : Int32), .int (115 : Int32), .int (0 : Int32)]) (rest := [.int (12 : Int32), .ref (ad 7)]) (fun r9 σ9 h9 => kX6_word l D ad cy X A zs σ606 (111 : Int32) (116 : Int32) (104 : Int32) (101 : Int32) (114 : Int32) (115 : Int32) (0 : Int32) r9 σ9 h9) gX6_init_X6_word rfl rfl rfl hyX6_word ⟨Nat.le_of_ble_eq_true rfl, Nat.le_of_ble_eq_true rfl⟩ rfl rfl (Nat.le_of_ble_eq_true rfl) dX6_init_626 ⟨Nat.le_of_ble_eq_true rfl, Nat.le_of_ble_eq_true rfl⟩ h (fun r626 σ626 h => ?_)
  refine q_last C (id := 7) (by decide) (fun f g => ceM_7 ad cy _ f g) dX6_init_629 h (fun σ629 h => ?_)
  refine q_aload_n C dX6_init_630 rfl 0 rfl ?_
  refine q_get C (Cn := RX6) (T := TX6) (Nf := 60) (ci := 6) (id := 0) (k := 9) (v := .ref (ad 7)) nX6_init_X6 (by decide) (ceM_0 ad cy _ _ _) rfl (by decide) rfl hX6_init_34 dX6_init_631 ?_
  refine q_bipush C (v := 13) dX6_init_634 (by decide) ?_
  refine q_bipush C (v := 109) dX6_init_636 (by decide) ?_
  refine q_bipush C (v := 111) dX6_init_638 (by decide) ?_
  refine q_bipush C (v := 110) dX6_init_640 (by decide) ?_
  refine q_bipush C (v := 116) dX6_init_642 (by decide) ?_
  refine q_bipush C (v := 104) dX6_init_644 (by decide) ?_
  refine q_iconst C (v := 0) dX6_init_646 (by decide) ?_
  refine q_iconst C (v := 0) dX6_init_647 (by decide) ?_
  refine q_callSl C (rm := rmX6_word) (As := [.int (109 : Int32), .int (111 : Int32), .int (110 : Int32), .int (116 : Int32), .int (104 : Int32), .int (0 : Int32), .int (0 : Int32)]) (rest := [.int (13 : Int32), .ref (ad 7)]) (fun r9 σ9 h9 => kX6_word l D ad cy X A zs σ629 (109 : Int32) (111 : Int32) (110 : Int32) (116 : Int32) (104 : Int32) (0 : Int32) (0 : Int32) r9 σ9 h9) gX6_init_X6_word rfl rfl rfl hyX6_word ⟨Nat.le_of_ble_eq_true rfl, Nat.le_of_ble_eq_true rfl⟩ rfl rfl (Nat.le_of_ble_eq_true rfl) dX6_init_648 ⟨Nat.le_of_ble_eq_true rfl, Nat.le_of_ble_eq_true rfl⟩ h (fun r648 σ648 h => ?_)
  refine q_last C (id := 7) (by decide) (fun f g => ceM_7 ad cy _ f g) dX6_init_651 h (fun σ651 h => ?_)
  refine q_iconst C (v := 0) dX6_init_652 (by decide) ?_
  refine q_istore_n C dX6_init_653 rfl (by decide) (lv' := [(0, .ref (ad 0)), (1, .int (0 : Int32))]) rfl ?_
  exact q_sub [0, 1] rfl ((kX6_init_L C r0 σ0 100000).1 (0 : Int32) σ651 h)
