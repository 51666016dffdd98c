-- ===== the law: rows =====
theorem qq_D {adC adM : Nat → Nat} {cy : Nat → ClassId} {A : Nat → Prop} {σ μ : St} (h : va_D A (qw ceC 96 adC cy σ ++ qw ceM 42 adM cy μ)) (σ' μ' : St) : va_D A (qw ceC 96 adC cy σ' ++ qw ceM 42 adM cy μ') := va_D_perm (qw_D μ' (va_D_perm (qw_D σ' h) List.perm_append_comm)) List.perm_append_comm
theorem qC_C {adC adM : Nat → Nat} {cy : Nat → ClassId} {A : Nat → Prop} {D : va_G} {zs : Nat × Nat × Option Nat} {cc : ByteArray} {nL : Nat} {own : String} {Ts : List Cond} {p : Program} {s : State} {m : MethodId} {args : Array Value} {meth : Method} {c : Code} {ret : Option FieldType} {μ : St} (C : qC ceC 96 adC cy (qw ceM 42 adM cy μ) A D zs cc nL own Ts p s m args meth c ret) (μ' : St) : qC ceC 96 adC cy (qw ceM 42 adM cy μ') A D zs cc nL own Ts p s m args meth c ret := ⟨C.1, C.2.1, C.2.2.1, C.2.2.2.1, C.2.2.2.2.1, C.2.2.2.2.2.1, fun σ => qq_D (C.2.2.2.2.2.2.1 σ) σ μ', C.2.2.2.2.2.2.2⟩
theorem qC_M {adC adM : Nat → Nat} {cy : Nat → ClassId} {A : Nat → Prop} {D : va_G} {zs : Nat × Nat × Option Nat} {cc : ByteArray} {nL : Nat} {own : String} {Ts : List Cond} {p : Program} {s : State} {m : MethodId} {args : Array Value} {meth : Method} {c : Code} {ret : Option FieldType} {μ : St} (C : qC ceC 96 adC cy (qw ceM 42 adM cy μ) A D zs cc nL own Ts p s m args meth c ret) (σ : St) : qC ceM 42 adM cy (qw ceC 96 adC cy σ) A D zs cc nL own Ts p s m args meth c ret := ⟨C.1, C.2.1, C.2.2.1, C.2.2.2.1, C.2.2.2.2.1, C.2.2.2.2.2.1, fun μ' => va_D_perm (qq_D (C.2.2.2.2.2.2.1 σ) σ μ') List.perm_append_comm, C.2.2.2.2.2.2.2⟩
theorem q_toM {adC adM : Nat → Nat} {cy : Nat → ClassId} {A : Nat → Prop} {D : va_G} {p : Program} {l : Launch} {e : Env} {R : Room} {s : State} {m : MethodId} {args : Array Value} {below : List Frame} {meth : Method} {c : Code} {nL kc ks : Nat} {Q : State → Prop} {pc : Nat} {lv : List (Nat × Value)} {st : List Value} {σ μ : St} (kk : qW ceM 42 adM cy (qw ceC 96 adC cy σ) A D p l e R s m args below meth c nL kc ks Q pc lv st μ) : qW ceC 96 adC cy (qw ceM 42 adM cy μ) A D p l e R s m args below meth c nL kc ks Q pc lv st σ := fun H locs ls hP hS hl => kk H locs ls (va_P_perm hP List.perm_append_comm) hS hl
theorem q_toC {adC adM : Nat → Nat} {cy : Nat → ClassId} {A : Nat → Prop} {D : va_G} {p : Program} {l : Launch} {e : Env} {R : Room} {s : State} {m : MethodId} {args : Array Value} {below : List Frame} {meth : Method} {c : Code} {nL kc ks : Nat} {Q : State → Prop} {pc : Nat} {lv : List (Nat × Value)} {st : List Value} {σ μ : St} (kk : qW ceC 96 adC cy (qw ceM 42 adM cy μ) A D p l e R s m args below meth c nL kc ks Q pc lv st σ) : qW ceM 42 adM cy (qw ceC 96 adC cy σ) A D p l e R s m args below meth c nL kc ks Q pc lv st μ := fun H locs ls hP hS hl => kk H locs ls (va_P_perm hP List.perm_append_comm) hS hl
def lwX (A : Nat → Prop) (b L : Nat) (xs : Nat → Int32) (s : State) : Prop := va_X b L xs s s.heap ∧ b < s.heap.size ∧ ¬ A b ∧ L ≤ 3072
section LROWS
variable {ce : qCE} {N : Nat} {ad : Nat → Nat} {cy : Nat → ClassId} {X : va_W} {A : Nat → Prop} {D : va_G} {p : Program} {l : Launch} {e : Env} {R : Room} {s : State} {m : MethodId} {args : Array Value} {below : List Frame} {meth : Method} {c : Code} {nL kc ks : Nat} {Q : State → Prop}
variable {cc : ByteArray} {own : String} {Ts : List Cond} {ret : Option FieldType} {zs : Nat × Nat × Option Nat} {pc : Nat} {lv : List (Nat × Value)} {st : List Value} {σ : St} {b L : Nat} {xs : Nat → Int32}
theorem q_sld (C : qC ce N ad cy X A D zs cc nL own Ts p s m args meth c ret) (hX : lwX A b L xs s) {i : Int32} (hin : vp_in i L) (hd : decode cc pc = .ok (.iaload, 1)) (kk : qW ce N ad cy X A D p l e R s m args below meth c nL kc ks Q (pc + 1) lv (.int (xs i.toNatClampNeg) :: st) σ) : qW ce N ad cy X A D p l e R s m args below meth c nL kc ks Q pc lv (.int i :: .ref b :: st) σ := fun H locs ls hP hS hl => va_sld C.1 C.2.1 hX.1 hX.2.1 hX.2.2.1 hS hin hd (kk H locs ls hP hS hl)
theorem q_slen (C : qC ce N ad cy X A D zs cc nL own Ts p s m args meth c ret) (hX : lwX A b L xs s) (hd : decode cc pc = .ok (.arraylength, 1)) (kk : qW ce N ad cy X A D p l e R s m args below meth c nL kc ks Q (pc + 1) lv (.int (nI L) :: st) σ) : qW ce N ad cy X A D p l e R s m args below meth c nL kc ks Q pc lv (.ref b :: st) σ := fun H locs ls hP hS hl => va_slen C.1 C.2.1 hX.1 hX.2.1 hX.2.2.1 hS hd (kk H locs ls hP hS hl)
theorem vp_inN {k L : Nat} (h : k < L) (hL : L ≤ 3072) : vp_in (nI k) L := by
  intro q
  rcases q with q | q
  · rw [fa_lt, nI_toInt (by omega)] at q
    have : (0 : Int32).toInt = 0 := rfl
    omega
  · rw [nI_clamp (by omega)] at q
    omega
/-- one argument out of the script: its k-th behind i -/
theorem q_arg (C : qC ce N ad cy X A D zs cc nL own Ts p s m args meth c ret) (hX : lwX A b L xs s) {i : Nat} {K : Int32} (k : Nat) {a1 a2 : Nat} (h6 : i + 6 ≤ L) (hk : k < 6) (hK : K = nI k) {n : Int} (h0 : lv[0]? = some (0, .ref b)) (h3 : lv[3]? = some (3, .int (nI i))) (d0 : decode cc pc = .ok (.aload_n 0, 1)) (d1 : decode cc (pc + 1) = .ok (.iload_n 3, 1)) (d2 : decode cc (pc + 2) = .ok (.iconst n, 1)) (hv : Int32.ofInt n = K) (d3 : decode cc (pc + 3) = .ok (.iadd, 1)) (d4 : decode cc (pc + 4) = .ok (.iaload, 1)) (kk : qW ce N ad cy X A D p l e R s m args below meth c nL kc ks Q (pc + 5) lv (.int (xs (i + k)) :: st) σ) : qW ce N ad cy X A D p l e R s m args below meth c nL kc ks Q pc lv st σ := by
  have hL := hX.2.2.2
  refine q_aload_n C d0 rfl 0 h0 ?_
  refine q_iload_n C d1 rfl 3 h3 ?_
  refine q_iconst C d2 hv ?_
  refine q_iadd C d3 ?_
  rw [hK, nI_add]
  refine q_sld C hX (vp_inN (by omega) hL) d4 ?_
  rw [nI_clamp (by omega)]
  exact kk
end LROWS
