theorem q_iincv {ce : qCE} {N : Nat} {ad : Nat → Nat} {cy : Nat → ClassId} {X : va_W} {A : Nat → Prop} {D : va_G} {p : Program} {l : Launch} {e : Env} {R : Room} {s : State} {m : MethodId} {args : Array Value} {below : List Frame} {meth : Method} {c : Code} {nL kc ks : Nat} {Q : State → Prop} {cc : ByteArray} {own : String} {Ts : List Cond} {ret : Option FieldType} {zs : Nat × Nat × Option Nat} {pc : Nat} {lv lv' : List (Nat × Value)} {st : List Value} {σ : St} (C : qC ce N ad cy X A D zs cc nL own Ts p s m args meth c ret) {i : Nat} {n : Int} {x v : Int32} (hd : decode cc pc = .ok (.iinc i n, 3)) (j : Nat) (hj : lv[j]? = some (i, .int x)) (hn : i < nL) (hv : x + Int32.ofInt n = v) (hlv : lvs i (.int v) lv = lv') (kk : qW ce N ad cy X A D p l e R s m args below meth c nL kc ks Q (pc + 3) lv' st σ) : qW ce N ad cy X A D p l e R s m args below meth c nL kc ks Q pc lv st σ := fun H locs ls hP hS hl => lv_iinc C.1 C.2.1 hd hl hj hv hn rfl (fun ls hl => kk H locs ls hP hS (hlv ▸ lvi_has hl))
set_option maxHeartbeats 4000000 in
set_option maxRecDepth 100000 in
theorem law_loop {adC adM : Nat → Nat} {cy : Nat → ClassId} {A : Nat → Prop} {D : va_G} {zs : Nat × Nat × Option Nat} {p : Program} {l : Launch} {e : Env} {s : State} {m : MethodId} {args : Array Value} {below : List Frame} {meth : Method} {c : Code} {b L : Nat} {xs : Nat → Int32} {kc ks : Nat} {Q : State → Prop} {ret : Option FieldType} (hX : lwX A b L xs s) (hR : kc ≤ room_1.cells ∧ ks ≤ room_1.slots) (hdone : ∀ (σ μ : St) (lv : List (Nat × Value)), qW ceC 96 adC cy (qw ceM 42 adM cy μ) A D p l e room_1 s m args below meth c 4 kc ks Q 1052 lv [] σ) : ∀ (j i : Nat), L < i + j → i ≤ L → ∀ (σ μ : St) (mo la wn fn : Nat), qC ceC 96 adC cy (qw ceM 42 adM cy μ) A D zs cL_law 4 RL wsL_law p s m args meth c ret → Inv σ μ mo la wn fn → qW ceC 96 adC cy (qw ceM 42 adM cy μ) A D p l e room_1 s m args below meth c 4 kc ks Q 18 [(0, .ref b), (1, .ref (adC 0)), (2, .ref (adM 0)), (3, .int (nI i))] [] σ
  | 0, i, h1, h2, _, _, _, _, _, _, _, _ => absurd h1 (by omega)
  | j + 1, i, h1, h2, σ, μ, mo, la, wn, fn, C, I => by
    have hL := hX.2.2.2
    refine q_iload_n C dL_law_18 rfl 3 rfl ?_
    refine q_aload_n C dL_law_19 rfl 0 rfl ?_
    refine q_slen C hX dL_law_20 ?_
    refine q_bipush C (v := 6) dL_law_21 (by decide) ?_
    refine q_isub C dL_law_23 ?_
    have a1 : (nI L).toInt = (L : Int) := nI_toInt (by omega)
    have a2 : (6 : Int32).toInt = 6 := by decide
    have a3 : (nI i).toInt = (i : Int) := nI_toInt (by omega)
    have e6 : (nI L - 6).toInt = (L : Int) - 6 := by
      rw [fb_subI (by rw [a1, a2]; omega) (by rw [a1, a2]; omega), a1, a2]
    by_cases q : nI L - 6 < nI i
    · refine q_icmp_gt C (tgt := 1052) (ft := some ()) (ff := none) (o := some ()) dL_law_24 (by decide) (if_pos q) (fun _ => ?_) (fun h => by cases h)
      exact hdone σ μ _
    · refine q_icmp_gt C (tgt := 1052) (ft := none) (ff := some ()) (o := some ()) dL_law_24 (by decide) (if_neg q) (fun h => by cases h) (fun _ => ?_)
      have h6 : i + 6 ≤ L := by
        rw [fa_lt, e6, a3] at q
        omega
      have ih : ∀ (σ μ : St) (mo la wn fn : Nat), Inv σ μ mo la wn fn → qW ceC 96 adC cy (qw ceM 42 adM cy μ) A D p l e room_1 s m args below meth c 4 kc ks Q 1046 [(0, .ref b), (1, .ref (adC 0)), (2, .ref (adM 0)), (3, .int (nI i))] [] σ := fun σ μ mo la wn fn I => by
        have C := qC_C C μ
        refine q_iincv C dL_law_1046 3 rfl (by decide) (v := nI (i + 6)) (by show nI i + nI 6 = nI (i + 6); rw [nI_add]) (lv' := [(0, .ref b), (1, .ref (adC 0)), (2, .ref (adM 0)), (3, .int (nI (i + 6)))]) rfl ?_
        refine q_goto C (tgt := 18) dL_law_1049 (by decide) ?_
        exact law_loop hX hR hdone j (i + 6) (by omega) (by omega) σ μ mo la wn fn C I
      refine q_aload_n C dL_law_27 rfl 0 rfl ?_
      refine q_iload_n C dL_law_28 rfl 3 rfl ?_
      refine q_sld C hX (vp_inN (by omega) hL) dL_law_29 ?_
      refine q_bipush C (v := 31) dL_law_30 (by decide) ?_
      refine q_iand C dL_law_32 ?_
      generalize (xs (nI i).toNatClampNeg &&& 31) = x
      by_cases hr : x.toInt < 0 ∨ 23 < x.toInt
      · refine q_tabOut C dL_law_33 hr (tgt := 1046) (by decide) ?_
        exact ih σ μ mo la wn fn I
      · rcases (show x.toInt = 0 ∨ x.toInt = 1 ∨ x.toInt = 2 ∨ x.toInt = 3 ∨ x.toInt = 4 ∨ x.toInt = 5 ∨ x.toInt = 6 ∨ x.toInt = 7 ∨ x.toInt = 8 ∨ x.toInt = 9 ∨ x.toInt = 10 ∨ x.toInt = 11 ∨ x.toInt = 12 ∨ x.toInt = 13 ∨ x.toInt = 14 ∨ x.toInt = 15 ∨ x.toInt = 16 ∨ x.toInt = 17 ∨ x.toInt = 18 ∨ x.toInt = 19 ∨ x.toInt = 20 ∨ x.toInt = 21 ∨ x.toInt = 22 ∨ x.toInt = 23 by omega) with h | h | h | h | h | h | h | h | h | h | h | h | h | h | h | h | h | h | h | h | h | h | h | h
        · exact q_tabIn C dL_law_33 h (tgt := 144) (by decide) (by decide) rfl (by decide) (lc_feed C hX h6 hR I ih)
        · exact q_tabIn C dL_law_33 h (tgt := 207) (by decide) (by decide) rfl (by decide) (lc_back C hX h6 hR I ih)
        · exact q_tabIn C dL_law_33 h (tgt := 230) (by decide) (by decide) rfl (by decide) (lc_read C hX h6 hR I ih)
        · exact q_tabIn C dL_law_33 h (tgt := 253) (by decide) (by decide) rfl (by decide) (lc_place C hX h6 hR I ih)
        · exact q_tabIn C dL_law_33 h (tgt := 266) (by decide) (by decide) rfl (by decide) (lc_moon C hX h6 hR I ih)
        · exact q_tabIn C dL_law_33 h (tgt := 289) (by decide) (by decide) rfl (by decide) (lc_land C hX h6 hR I ih)
        · exact q_tabIn C dL_law_33 h (tgt := 322) (by decide) (by decide) rfl (by decide) (lc_table C hX h6 hR I ih)
        · exact q_tabIn C dL_law_33 h (tgt := 355) (by decide) (by decide) rfl (by decide) (lc_cell C hX h6 hR I ih)
        · exact q_tabIn C dL_law_33 h (tgt := 398) (by decide) (by decide) rfl (by decide) (lc_travel C hX h6 hR I ih)
        · exact q_tabIn C dL_law_33 h (tgt := 441) (by decide) (by decide) rfl (by decide) (lc_witness C hX h6 hR I ih)
        · exact q_tabIn C dL_law_33 h (tgt := 464) (by decide) (by decide) rfl (by decide) (lc_report C hX h6 hR I ih)
        · exact q_tabIn C dL_law_33 h (tgt := 497) (by decide) (by decide) rfl (by decide) (lc_cloud C hX h6 hR I ih)
        · exact q_tabIn C dL_law_33 h (tgt := 530) (by decide) (by decide) rfl (by decide) (lc_age C hX h6 hR I ih)
        · exact q_tabIn C dL_law_33 h (tgt := 563) (by decide) (by decide) rfl (by decide) (lc_light C hX h6 hR I ih)
        · exact q_tabIn C dL_law_33 h (tgt := 596) (by decide) (by decide) rfl (by decide) (lc_verdict C hX h6 hR I ih)
        · exact q_tabIn C dL_law_33 h (tgt := 629) (by decide) (by decide) rfl (by decide) (lc_worth C hX h6 hR I ih)
        · exact q_tabIn C dL_law_33 h (tgt := 672) (by decide) (by decide) rfl (by decide) (lc_begins C hX h6 hR I ih)
        · exact q_tabIn C dL_law_33 h (tgt := 715) (by decide) (by decide) rfl (by decide) (lc_by C hX h6 hR I ih)
        · exact q_tabIn C dL_law_33 h (tgt := 758) (by decide) (by decide) rfl (by decide) (lc_heard C hX h6 hR I ih)
        · exact q_tabIn C dL_law_33 h (tgt := 811) (by decide) (by decide) rfl (by decide) (lc_date C hX h6 hR I ih)
        · exact q_tabIn C dL_law_33 h (tgt := 854) (by decide) (by decide) rfl (by decide) (lc_turn C hX h6 hR I ih)
        · exact q_tabIn C dL_law_33 h (tgt := 917) (by decide) (by decide) rfl (by decide) (lc_unlike C hX h6 hR I ih)
        · exact q_tabIn C dL_law_33 h (tgt := 980) (by decide) (by decide) rfl (by decide) (lc_changed C hX h6 hR I ih)
        · exact q_tabIn C dL_law_33 h (tgt := 1023) (by decide) (by decide) rfl (by decide) (lc_count C hX h6 hR I ih)
