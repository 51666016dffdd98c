theorem WX5_c {cy : Nat → ClassId} {h0 : Nat} {a b : Nat → Nat} (h : ∀ k, 0 < k → a k = b k) : WX5 cy h0 a = WX5 cy h0 b := by
  have f : ∀ c, 0 < c → (fun i => a (c + i)) = fun i => b (c + i) := fun c hc => funext fun i => h _ (by omega)
  unfold WX5
  rw [f 2 (by decide), f 21 (by decide), f 91 (by decide), f 34 (by decide), f 36 (by decide), f 61 (by decide), f 66 (by decide), f 71 (by decide), f 76 (by decide), f 81 (by decide), f 86 (by decide), h 1 (by decide), h 2 (by decide), h 21 (by decide), h 33 (by decide), h 91 (by decide), h 34 (by decide), h 36 (by decide), h 60 (by decide), h 61 (by decide), h 66 (by decide), h 71 (by decide), h 76 (by decide), h 81 (by decide), h 86 (by decide)]
def au (q0 : Nat) (u : Nat → Nat) : Nat → Nat := fun k => if k = 0 then q0 else u k
theorem au_0 (q0 : Nat) (u : Nat → Nat) : au q0 u 0 = q0 := rfl
theorem WX5_au {cy : Nat → ClassId} {q0 : Nat} {u : Nat → Nat} : WX5 cy q0 u = WX5 cy (au q0 u 0) (au q0 u) := by
  rw [au_0]
  exact WX5_c (fun k hk => (if_neg (by omega)).symm)
theorem qw_0 {ce : qCE} {ad : Nat → Nat} {cy : Nat → ClassId} {σ : St} : qw ce 0 ad cy σ = [] := rfl
theorem w5_list {ce : qCE} {ad0 : Nat → Nat} {cy : Nat → ClassId} {σ : St} {q0 : Nat} {u : Nat → Nat} {Y : va_W} : qw ce 0 ad0 cy σ ++ ((([] ++ WX5 cy q0 u) ++ Y) ++ []) = WX5 cy (au q0 u 0) (au q0 u) ++ Y := by
  rw [qw_0, List.nil_append, List.nil_append, List.append_nil, WX5_au]
theorem i_toL {ce : qCE} {ad0 : Nat → Nat} {cy : Nat → ClassId} {A : Nat → Prop} {D : va_G} {p : Program} {l : Launch} {e : Env} {R : Room} {s : State} {m : MethodId} {args : Array Value} {below : List Frame} {meth : Method} {c : Code} {nL kc ks : Nat} {Q : State → Prop} {cc : ByteArray} {own : String} {Ts : List Cond} {ret : Option FieldType} {zs : Nat × Nat × Option Nat} {pc : Nat} {lv : List (Nat × Value)} {st : List Value} {σ μ0 : St} {q0 : Nat} {u adM : Nat → Nat} (C : qC ce 0 ad0 cy ((([] ++ WX5 cy q0 u) ++ qw ceM 42 adM cy μ0) ++ []) A D zs cc nL own Ts p s m args meth c ret) (kk : ∀ adC : Nat → Nat, adC 0 = q0 → qC ceC 96 adC cy (qw ceM 42 adM cy μ0) A D zs cc nL own Ts p s m args meth c ret → qW ceC 96 adC cy (qw ceM 42 adM cy μ0) A D p l e R s m args below meth c nL kc ks Q pc lv st σ5) : qW ce 0 ad0 cy ((([] ++ WX5 cy q0 u) ++ qw ceM 42 adM cy μ0) ++ []) A D p l e R s m args below meth c nL kc ks Q pc lv st σ := fun H locs ls hP hS hl => by
  have hP2 : va_P D vwCl (WX5 cy (au q0 u 0) (au q0 u) ++ qw ceM 42 adM cy μ0) H := w5_list ▸ hP
  have hD2 : va_D A (WX5 cy (au q0 u 0) (au q0 u) ++ qw ceM 42 adM cy μ0) := w5_list ▸ (C.2.2.2.2.2.2.1 σ)
  exact kk (au q0 u) rfl ⟨C.1, C.2.1, C.2.2.1, C.2.2.2.1, C.2.2.2.2.1, C.2.2.2.2.2.1, fun σ => w5_D hD2 σ, C.2.2.2.2.2.2.2⟩ H locs ls (w5_P hP2) hS hl
