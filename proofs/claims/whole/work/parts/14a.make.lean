-- ===== making: rows over a list of cells, the rest beside it =====
theorem va_P_mem {D : va_G} {cl : List vw_C} {ws ws' : va_W} {H : Heap} (h : va_P D cl ws H) (hp : ∀ x, x ∈ ws' → x ∈ ws) : va_P D cl ws' H := fun k q hk => by
  obtain ⟨i, hi⟩ := List.getElem?_of_mem (hp q (List.mem_of_getElem? hk))
  exact h i q hi
theorem va_D_nd {A : Nat → Prop} {ws : va_W} : va_D A ws ↔ (ws.map Prod.fst).Nodup ∧ ∀ x, x ∈ ws → A x.1 := by
  constructor
  · intro h
    refine ⟨List.pairwise_iff_getElem.mpr (fun i j hi hj hij q => ?_), fun x hx => ?_⟩
    · rw [List.length_map] at hi hj
      rw [List.getElem_map, List.getElem_map] at q
      have := h.1 i j ws[i] ws[j] (List.getElem?_eq_getElem hi) (List.getElem?_eq_getElem hj) q
      omega
    · obtain ⟨i, hi⟩ := List.getElem?_of_mem hx
      exact h.2 i x hi
  · intro ⟨h1, h2⟩
    have h3 := List.pairwise_iff_getElem.mp h1
    have ne : ∀ (i j : Nat) (p q : Nat × va_E), ws[i]? = some p → ws[j]? = some q → i < j → p.1 ≠ q.1 := fun i j p q hp hq hij e => by
      obtain ⟨hi, ei⟩ := List.getElem?_eq_some_iff.mp hp
      obtain ⟨hj, ej⟩ := List.getElem?_eq_some_iff.mp hq
      refine h3 i j (by rw [List.length_map]; exact hi) (by rw [List.length_map]; exact hj) hij ?_
      rw [List.getElem_map, List.getElem_map, ei, ej]
      exact e
    refine ⟨fun i j p q hp hq e => ?_, fun k q hq => h2 q (List.mem_of_getElem? hq)⟩
    rcases Nat.lt_trichotomy i j with c | c | c
    · exact absurd e (ne i j p q hp hq c)
    · exact c
    · exact absurd e.symm (ne j i q p hq hp c)
theorem va_D_perm {A : Nat → Prop} {ws ws' : va_W} (h : va_D A ws) (hp : ws.Perm ws') : va_D A ws' := by
  rw [va_D_nd] at h ⊢
  exact ⟨(hp.map Prod.fst).nodup_iff.mp h.1, fun x hx => h.2 x (hp.mem_iff.mpr hx)⟩
theorem va_P_perm {D : va_G} {cl : List vw_C} {ws ws' : va_W} {H : Heap} (h : va_P D cl ws H) (hp : ws.Perm ws') : va_P D cl ws' H := va_P_mem h (fun x hx => hp.mem_iff.mpr hx)
theorem va_AOA.moved {ty : FieldType} {u U : State} (hvm : u.vm.Alike U.vm) (h : va_AOA ty u) : va_AOA ty U := by
  have h2 : (Cond.arrayOver (.array ty)).before #[] (u.setVm U.vm) = true := by
    rw [Cond.arrayOver_setVmC hvm]
    exact h
  exact h2
def iE (U : State) : Prop := va_AOA .byte U ∧ va_AOA .int U ∧ va_AO RX3 U ∧ va_Nw (.methodLinkNest "CrescentCourt" 42 yX3_init "CrescentCourt") U
theorem iE.go {s U : State} (h : iE s) (hW : s.WarmedH U.vm) : iE U := ⟨h.1.moved hW.alike, h.2.1.moved hW.alike, h.2.2.1.moved hW.alike, va_Nw.warmM hW h.2.2.2⟩
theorem iE.blind {U : State} {g : JFrame} {mk : MethodId} {a : Array Value} (h : iE U) : iE (U.calling g mk a) := ⟨va_AOA.moved (u := U) (Vm.Alike.refl U.vm) h.1, va_AOA.moved (u := U) (Vm.Alike.refl U.vm) h.2.1, va_AO.moved (u := U) (Vm.Alike.refl U.vm) h.2.2.1, va_tabs (A := #[]) (u := U) rfl rfl h.2.2.2⟩
/-- a maker's start, and its end -/
def iPc (cy : Nat → ClassId) (L X : va_W) (A : Nat → Prop) (D : va_G) (zs : Nat × Nat × Option Nat) (av : List Value) : Array Value → State → Prop := va_Pc av (fun U => va_P D vwCl (L ++ X) U.heap ∧ va_K D vwCl (qtys cy) U ∧ qE zs A U U.heap ∧ va_D A (L ++ X) ∧ (∀ q, U.heap.size ≤ q → A q) ∧ iE U)
def iQ (Wf : (Nat → Nat) → va_W) (X : va_W) (A : Nat → Prop) (D : va_G) : Array Value → State → Outcome → State → Prop := va_Qv (fun _ : Nat → Nat => True) (fun u t => va_P D vwCl (Wf u ++ X) t.heap ∧ va_D A (Wf u ++ X)) A
def iσ : St := (fun _ _ => 0, fun _ _ => 0, fun _ => 0)
theorem ra1 {s : State} {t : FieldType} (ht : ∀ C, t ≠ .object C) {c1 c2 : ClassId} (h1 : va_RA s c1 t) (h2 : va_RA s c2 t) : c1 = c2 := by
  cases t with
  | object C => exact absurd rfl (ht C)
  | _ => exact Option.some.inj (Eq.trans (Eq.symm h1) h2)
theorem ra2 {s : State} {C : String} {c1 c2 : ClassId} (h1 : va_RA s c1 (.object C)) (h2 : va_RA s c2 (.object C)) : c1 = c2 := by
  obtain ⟨_, _, _, _, _, e1⟩ := h1
  obtain ⟨_, _, _, _, _, e2⟩ := h2
  exact Option.some.inj (e1.symm.trans e2)
section IROWS
variable {ce : qCE} {ad : Nat → Nat} {cy : Nat → ClassId} {L L' X : va_W} {A : Nat → Prop} {D : va_G} {p : Program} {l : Launch} {e : Env} {R : Room} {s : State} {m : MethodId} {args : Array Value} {below : List Frame} {meth : Method} {c : Code} {nL kc ks : Nat} {Q : State → Prop}
variable {cc : ByteArray} {own : String} {Ts : List Cond} {ret : Option FieldType} {zs : Nat × Nat × Option Nat} {pc : Nat} {lv lv' : List (Nat × Value)} {st : List Value} {σ : St}
theorem i_C {X1 X2 : va_W} (C : qC ce 0 ad cy X1 A D zs cc nL own Ts p s m args meth c ret) (hD : va_D A X2) : qC ce 0 ad cy X2 A D zs cc nL own Ts p s m args meth c ret := ⟨C.1, C.2.1, C.2.2.1, C.2.2.2.1, C.2.2.2.2.1, C.2.2.2.2.2.1, fun _ => hD, C.2.2.2.2.2.2.2⟩
theorem i_newa (C : qC ce 0 ad cy (L ++ X) A D zs cc nL own Ts p s m args meth c ret) (hA : ∀ q, s.heap.size ≤ q → A q) {atype : ArrayType} {t0 : Nat} {cA : ClassId} {ty : FieldType} (ht : (qtys cy)[t0]? = some (cA, ty)) (hty : Jvm.Op.newarray.typeOf atype = ty) (ho : ∀ C, ty ≠ .object C) (harr : Cond.arrayClass ty ∈ Ts) {n : Int32} {N' : Nat} {a0 : vp_A} (ha : ∀ cA, vp_cell cA a0 = arrV cA N' (fun _ => defaultValue ty)) (hn : ¬ n < 0) (hN : n.toNatClampNeg = N') (hbytes : N' * componentBytes ty ≤ 536870912) (hcells : kc + 1 ≤ R.cells) (hslots : ks + N' ≤ R.slots) (hd : decode cc pc = .ok (.newarray atype, 2)) (kk : ∀ q, qC ce 0 ad cy ((L ++ [(q, .inl (cA, a0))]) ++ X) A D zs cc nL own Ts p s m args meth c ret → qW ce 0 ad cy ((L ++ [(q, .inl (cA, a0))]) ++ X) A D p l e R s m args below meth c nL (kc + 1) (ks + N') Q (pc + 2) lv (.ref q :: st) σ) : qW ce 0 ad cy (L ++ X) A D p l e R s m args below meth c nL kc ks Q pc lv (.int n :: st) σ := fun H locs ls hP hS hl => by
  subst hty
  have hP : va_P D vwCl (L ++ X) H := hP
  have hD0 : va_D A (L ++ X) := C.2.2.2.2.2.2.1 σ
  refine va_newa C.1 C.2.1 (C.2.2.2.2.1 _ harr) rfl C.2.2.2.2.2.1 hP hD0 hS hA ha hn hN hbytes hcells hslots hd (fun q cB H1 hK1 hP1 hD1 hS1 => ?_)
  have eq : cB = cA := ra1 ho (hK1.2 7 (cB, Jvm.Op.newarray.typeOf atype) rfl).2 (C.2.2.2.2.2.1.2 t0 _ ht).2
  subst eq
  exact kk q (i_C C (va_D.swap hD1)) H1 locs ls (va_P.swap hP1) hS1 hl
theorem i_newq (C : qC ce 0 ad cy (L ++ X) A D zs cc nL own Ts p s m args meth c ret) (hA : ∀ q, s.heap.size ≤ q → A q) (hE : iE s) {index : Nat} (hcl : Cond.classLink own index RX3 ∈ Ts) {n : Int32} {N' : Nat} (hn : ¬ n < 0) (hN : n.toNatClampNeg = N') (hbytes : N' * 4 ≤ 536870912) (hcells : kc + 1 ≤ R.cells) (hslots : ks + N' ≤ R.slots) (hd : decode cc pc = .ok (.anewarray index, 3)) (kk : ∀ q, qC ce 0 ad cy ((L ++ [(q, .inl (cy 4, N', .inr (.inr (.inr (.inr (fun _ => none))))))]) ++ X) A D zs cc nL own Ts p s m args meth c ret → qW ce 0 ad cy ((L ++ [(q, .inl (cy 4, N', .inr (.inr (.inr (.inr (fun _ => none))))))]) ++ X) A D p l e R s m args below meth c nL (kc + 1) (ks + N') Q (pc + 3) lv (.ref q :: st) σ) : qW ce 0 ad cy (L ++ X) A D p l e R s m args below meth c nL kc ks Q pc lv (.int n :: st) σ := fun H locs ls hP hS hl => by
  have hP : va_P D vwCl (L ++ X) H := hP
  have hD0 : va_D A (L ++ X) := C.2.2.2.2.2.2.1 σ
  refine va_newq C.1 C.2.1 C.2.2.2.1 (C.2.2.2.2.1 _ hcl) hE.2.2.1 C.2.2.2.2.2.1 hP hD0 hS hA hn hN hbytes hcells hslots hd (fun q cB H1 hK1 hP1 hD1 hS1 => ?_)
  have eq : cB = cy 4 := ra2 (hK1.2 7 (cB, .object RX3) rfl).2 (C.2.2.2.2.2.1.2 4 _ rfl).2
  subst eq
  exact kk q (i_C C (va_D.swap hD1)) H1 locs ls (va_P.swap hP1) hS1 hl
theorem pl6 {r : Nat → Nat} {f : Nat → va_E} {x : va_E} : va_pl ([] ++ (List.range 6).map r) (vr_up f ((List.range 6).map r) x) = [(r 0, x), (r 1, x), (r 2, x), (r 3, x), (r 4, x), (r 5, x)] := by
  have e : (List.range 6).map r = [r 0, r 1, r 2, r 3, r 4, r 5] := rfl
  rw [e, List.nil_append]
  simp [va_pl, vr_up]
def aaF (r : Nat → Nat) : Nat → Option Nat := fun i => if i = 0 then some (r 0) else if i = 1 then some (r 1) else if i = 2 then some (r 2) else if i = 3 then some (r 3) else if i = 4 then some (r 4) else if i = 5 then some (r 5) else none
theorem aaF_is (r : Nat → Nat) : (fun i => if i < 6 then some (r i) else none) = aaF r := by
  funext i
  unfold aaF
  by_cases h : i < 6
  · rw [if_pos h]
    rcases (show i = 0 ∨ i = 1 ∨ i = 2 ∨ i = 3 ∨ i = 4 ∨ i = 5 by omega) with rfl | rfl | rfl | rfl | rfl | rfl <;> rfl
  · rw [if_neg h, if_neg (by omega), if_neg (by omega), if_neg (by omega), if_neg (by omega), if_neg (by omega), if_neg (by omega)]
theorem i_mna (C : qC ce 0 ad cy (L ++ X) A D zs cc nL own Ts p s m args meth c ret) (hA : ∀ q, s.heap.size ≤ q → A q) {index : Nat} {ty : FieldType} {t0 t1 : Nat} {cO cI : ClassId} (ht : (qtys cy)[t0]? = some (cO, .array ty)) (hti : (qtys cy)[t1]? = some (cI, ty)) (hti2 : va_RA s cI ty → s.vm.findClass (FieldType.array ty).toString = some cI) (hover : va_AOA ty s) (hcl : Cond.classLink own index ("[" ++ (FieldType.array ty).toString) ∈ Ts) (harr : Cond.arrayClass ty ∈ Ts) {k : Int32} {K' : Nat} {z : vp_A} (hk : ¬ k < 0) (hM : k.toNatClampNeg = K') (hb2 : K' * componentBytes ty ≤ 536870912) (hb3 : K' ≤ 536870912) (hdf : fits ty (defaultValue ty) = true) (hdd : (defaultValue ty).isDefault = true) (hcells : kc + (1 + 6) ≤ R.cells) (hslots : ks + (6 + 6 * K') ≤ R.slots) (hz : ∀ c : ClassId, Jvm.Free.Multi.innerC c K' (defaultValue ty) = vp_cell c z) (hd : decode cc pc = .ok (.multianewarray index 2, 4)) (kk : ∀ (q : Nat) (r : Nat → Nat), qC ce 0 ad cy ((L ++ [(q, .inl (cO, 6, .inr (.inr (.inr (.inr (aaF r)))))), (r 0, .inl (cI, z)), (r 1, .inl (cI, z)), (r 2, .inl (cI, z)), (r 3, .inl (cI, z)), (r 4, .inl (cI, z)), (r 5, .inl (cI, z))]) ++ X) A D zs cc nL own Ts p s m args meth c ret → qW ce 0 ad cy ((L ++ [(q, .inl (cO, 6, .inr (.inr (.inr (.inr (aaF r)))))), (r 0, .inl (cI, z)), (r 1, .inl (cI, z)), (r 2, .inl (cI, z)), (r 3, .inl (cI, z)), (r 4, .inl (cI, z)), (r 5, .inl (cI, z))]) ++ X) A D p l e R s m args below meth c nL (kc + 1 + 6) (ks + 6 + 6 * K') Q (pc + 4) lv (.ref q :: st) σ) : qW ce 0 ad cy (L ++ X) A D p l e R s m args below meth c nL kc ks Q pc lv (.int k :: .int 6 :: st) σ := fun H locs ls hP hS hl => by
  have hP : va_P D vwCl ((L ++ X) ++ va_pl [] (fun _ => .inl (cI, z))) H := by
    show va_P D vwCl ((L ++ X) ++ []) H
    rw [List.append_nil]
    exact hP
  have hD0 : va_D A ((L ++ X) ++ va_pl [] (fun _ => .inl (cI, z))) := by
    show va_D A ((L ++ X) ++ [])
    rw [List.append_nil]
    exact C.2.2.2.2.2.2.1 σ
  refine va_mna C.1 C.2.1 C.2.2.2.1 (C.2.2.2.2.1 _ hcl) hover (C.2.2.2.2.1 _ harr) (hti2 (C.2.2.2.2.2.1.2 t1 _ hti).2) C.2.2.2.2.2.1 hP hD0 hS hA (n := 6) (N' := 6) (by decide) hk (by decide) hM (by decide) hb2 hb3 hdf hdd hcells hslots hz hd (fun q r cB H1 _ _ hK1 hP1 hD1 hS1 => ?_)
  have eq : cB = cO := ra1 (fun C h => by cases h) (hK1.2 7 (cB, .array ty) rfl).2 (C.2.2.2.2.2.1.2 t0 _ ht).2
  subst eq
  rw [pl6, List.append_assoc, aaF_is] at hP1 hD1
  exact kk q r (i_C C (va_D.swap hD1)) H1 locs ls (va_P.swap hP1) hS1 hl
theorem i_new (C : qC ce 0 ad cy (L ++ X) A D zs cc nL own Ts p s m args meth c ret) (hA : ∀ q, s.heap.size ≤ q → A q) {Cn : String} {T : u_T} {Nf ci index : Nat} {ty0 : Nat → FieldType} (hin : ∀ w ∈ u_ws Cn T Nf, w ∈ Ts) (hty : ∀ k, k < Nf → parseFieldDescriptor (T k).2.2.1 = some (ty0 k)) (hcl : Cond.classLink own index Cn ∈ Ts) (hinst : Cond.instantiable Cn Nf ∈ Ts) (hini : Cond.initialized Cn ∈ Ts) (hc : vwCl[ci]? = some (Cn, T, Nf)) {fs : List Value} (hfs : ∀ j, j < Nf → defaultValue (ty0 j) = vp_V fs j) (hcells : kc + 1 ≤ R.cells) (hslots : ks + Nf ≤ R.slots) (hd : decode cc pc = .ok (.new index, 3)) (kk : ∀ q, qC ce 0 ad cy ((L ++ [(q, .inr (ci, fs))]) ++ X) A D zs cc nL own Ts p s m args meth c ret → qW ce 0 ad cy ((L ++ [(q, .inr (ci, fs))]) ++ X) A D p l e R s m args below meth c nL (kc + 1) (ks + Nf) Q (pc + 3) lv (.ref q :: st) σ) : qW ce 0 ad cy (L ++ X) A D p l e R s m args below meth c nL kc ks Q pc lv st σ := fun H locs ls hP hS hl => by
  have hP : va_P D vwCl (L ++ X) H := hP
  have hD0 : va_D A (L ++ X) := C.2.2.2.2.2.2.1 σ
  refine va_new C.1 C.2.1 C.2.2.2.2.1 hin ty0 hty C.2.2.2.1 (C.2.2.2.2.1 _ hcl) (C.2.2.2.2.1 _ hinst) (C.2.2.2.2.1 _ hini) C.2.2.2.2.2.1 hP hD0 hS hA hc hfs hcells hslots hd (fun q H1 hP1 hD1 hS1 => ?_)
  exact kk q (i_C C (va_D.swap hD1)) H1 locs ls (va_P.swap hP1) hS1 hl
theorem at_L {q0 : Nat} {x : Nat × va_E} (he : L[q0]? = some x) : (L ++ X)[q0]? = some x := by
  rw [List.getElem?_append_left (List.getElem?_eq_some_iff.mp he).1]
  exact he
theorem set_L {q0 : Nat} {x y : Nat × va_E} (he : L[q0]? = some x) : (L ++ X).set q0 y = L.set q0 y ++ X := List.set_append_left q0 y (List.getElem?_eq_some_iff.mp he).1
theorem i_get (C : qC ce 0 ad cy (L ++ X) A D zs cc nL own Ts p s m args meth c ret) {Cn : String} {T : u_T} {Nf ci index k : Nat} {fs : List Value} {v : Value} (hin : ∀ w ∈ u_ws Cn T Nf, w ∈ Ts) (q0 : Nat) {a : Nat} (he : L[q0]? = some (a, .inr (ci, fs))) (hc : vwCl[ci]? = some (Cn, T, Nf)) (hk : k < Nf) (hv : fs[k]? = some v) (hlink : Cond.fieldLink own index (T k).1 (T k).2.1 (T k).2.2.1 ∈ Ts) (hd : decode cc pc = .ok (.getfield index, 3)) (kk : qW ce 0 ad cy (L ++ X) A D p l e R s m args below meth c nL kc ks Q (pc + 3) lv (v :: st) σ) : qW ce 0 ad cy (L ++ X) A D p l e R s m args below meth c nL kc ks Q pc lv (.ref a :: st) σ := fun H locs ls hP hS hl => va_get (ws := L ++ X) C.1 C.2.1 C.2.2.2.2.1 hin C.2.2.2.1 C.2.2.2.2.2.1 hP q0 (at_L he) hc k hk (C.2.2.2.2.1 _ hlink) (fun _ h9 => h9) hv hd (kk H locs ls hP hS hl)
theorem i_put (C : qC ce 0 ad cy (L ++ X) A D zs cc nL own Ts p s m args meth c ret) {Cn : String} {T : u_T} {ty0 : Nat → FieldType} {Nf ci index k : Nat} {fs : List Value} {v : Value} (hty : ∀ k, k < Nf → parseFieldDescriptor (T k).2.2.1 = some (ty0 k)) (hnm : ∀ a, a < Nf → ∀ b, b < Nf → a ≠ b → (T a).2.1 ≠ (T b).2.1) (hin : ∀ w ∈ u_ws Cn T Nf, w ∈ Ts) (q0 : Nat) {a : Nat} (he : L[q0]? = some (a, .inr (ci, fs))) (hc : vwCl[ci]? = some (Cn, T, Nf)) (hk : k < Nf) (hfin : (T k).2.2.2 = false) {ty : FieldType} (hd2 : parseFieldDescriptor (T k).2.2.1 = some ty) (hn : narrow ty v = v) (hfit : fits ty v = true) (hl9 : k < fs.length) (hlink : Cond.fieldLink own index (T k).1 (T k).2.1 (T k).2.2.1 ∈ Ts) (hd : decode cc pc = .ok (.putfield index, 3)) (hL : L.set q0 (a, .inr (ci, fs.set k v)) = L') (kk : qC ce 0 ad cy (L' ++ X) A D zs cc nL own Ts p s m args meth c ret → qW ce 0 ad cy (L' ++ X) A D p l e R s m args below meth c nL kc ks Q (pc + 3) lv st σ) : qW ce 0 ad cy (L ++ X) A D p l e R s m args below meth c nL kc ks Q pc lv (v :: .ref a :: st) σ := fun H locs ls hP hS hl => by
  refine va_put (ws := L ++ X) C.1 C.2.1 C.2.2.2.2.1 hin ty0 hty hnm C.2.2.2.1 C.2.2.2.2.2.1 hP (C.2.2.2.2.2.2.1 σ) hS q0 (at_L he) hc k hk (C.2.2.2.2.1 _ hlink) (fun _ h9 => h9) hfin hd2 hn hfit hl9 hd (fun H1 locs1 hP1 hD1 hS1 => ?_)
  rw [set_L he, hL] at hP1 hD1
  exact kk (i_C C hD1) H1 locs1 ls hP1 hS1 hl
theorem i_putF (C : qC ce 0 ad cy (L ++ X) A D zs cc nL own Ts p s m args meth c ret) (hini : meth.name = "<init>") {Cn : String} {T : u_T} {ty0 : Nat → FieldType} {Nf ci index k : Nat} {fs : List Value} {v : Value} (hty : ∀ k, k < Nf → parseFieldDescriptor (T k).2.2.1 = some (ty0 k)) (hnm : ∀ a, a < Nf → ∀ b, b < Nf → a ≠ b → (T a).2.1 ≠ (T b).2.1) (hin : ∀ w ∈ u_ws Cn T Nf, w ∈ Ts) (q0 : Nat) {a : Nat} (he : L[q0]? = some (a, .inr (ci, fs))) (hc : vwCl[ci]? = some (Cn, T, Nf)) (hk : k < Nf) (hfin : (T k).2.2.2 = true) (hdecl : (T k).1 = own) {ty : FieldType} (hd2 : parseFieldDescriptor (T k).2.2.1 = some ty) (hn : narrow ty v = v) (hfit : fits ty v = true) (hl9 : k < fs.length) (hlink : Cond.fieldLink own index (T k).1 (T k).2.1 (T k).2.2.1 ∈ Ts) (hd : decode cc pc = .ok (.putfield index, 3)) (hL : L.set q0 (a, .inr (ci, fs.set k v)) = L') (kk : qC ce 0 ad cy (L' ++ X) A D zs cc nL own Ts p s m args meth c ret → qW ce 0 ad cy (L' ++ X) A D p l e R s m args below meth c nL kc ks Q (pc + 3) lv st σ) : qW ce 0 ad cy (L ++ X) A D p l e R s m args below meth c nL kc ks Q pc lv (v :: .ref a :: st) σ := fun H locs ls hP hS hl => by
  refine va_putF (ws := L ++ X) C.1 C.2.1 C.2.2.2.2.1 hin ty0 hty hnm C.2.2.2.1 C.2.2.2.2.2.1 hP (C.2.2.2.2.2.2.1 σ) hS q0 (at_L he) hc k hk (C.2.2.2.2.1 _ hlink) (fun _ h9 => h9) hfin hini hdecl hd2 hn hfit hl9 hd (fun H1 locs1 hP1 hD1 hS1 => ?_)
  rw [set_L he, hL] at hP1 hD1
  exact kk (i_C C hD1) H1 locs1 ls hP1 hS1 hl
theorem i_iast (C : qC ce 0 ad cy (L ++ X) A D zs cc nL own Ts p s m args meth c ret) (q0 : Nat) {a n : Nat} {f : Nat → Int32} (he : L[q0]? = some (a, .inl (cy 1, n, .inl f))) {i x : Int32} (hi : vp_in i n) (hd : decode cc pc = .ok (.iastore, 1)) (hL : L.set q0 (a, .inl (cy 1, n, .inl (upd f i.toNatClampNeg x))) = L') (kk : qC ce 0 ad cy (L' ++ X) A D zs cc nL own Ts p s m args meth c ret → qW ce 0 ad cy (L' ++ X) A D p l e R s m args below meth c nL kc ks Q (pc + 1) lv st σ) : qW ce 0 ad cy (L ++ X) A D p l e R s m args below meth c nL kc ks Q pc lv (.int x :: .int i :: .ref a :: st) σ := fun H locs ls hP hS hl => by
  refine va_iast (ws := L ++ X) C.1 C.2.1 C.2.2.2.2.2.1 hP (C.2.2.2.2.2.2.1 σ) hS q0 1 (at_L he) rfl hi hd (fun H1 locs1 hP1 hD1 hS1 => ?_)
  rw [set_L he, hL] at hP1 hD1
  exact kk (i_C C hD1) H1 locs1 ls hP1 hS1 hl
theorem i_aald (C : qC ce 0 ad cy (L ++ X) A D zs cc nL own Ts p s m args meth c ret) (q0 : Nat) {a n r t0 : Nat} {ty : FieldType} {cA : ClassId} {g : Nat → Option Nat} (he : L[q0]? = some (a, .inl (cA, n, .inr (.inr (.inr (.inr g)))))) (ht : (qtys cy)[t0]? = some (cA, ty)) (hty : ty.isReference = true) {i : Int32} (hi : vp_in i n) (hg : g i.toNatClampNeg = some r) (hd : decode cc pc = .ok (.aaload, 1)) (kk : qW ce 0 ad cy (L ++ X) A D p l e R s m args below meth c nL kc ks Q (pc + 1) lv (.ref r :: st) σ) : qW ce 0 ad cy (L ++ X) A D p l e R s m args below meth c nL kc ks Q pc lv (.int i :: .ref a :: st) σ := fun H locs ls hP hS hl => by
  have hlt : i.toNatClampNeg < n := Nat.not_le.mp fun q => hi (Or.inr q)
  have hP' : va_P D vwCl (L ++ X) H := hP
  have hc := hP' q0 _ (at_L he)
  exact W.aald (v := .ref r) (ty := ty) C.1 C.2.1 hc ((C.2.2.2.2.2.1.2 t0 _ ht).1 n (fun j => va_rf (g j))) hty (fun q => by cases q) (by show ¬ (i < 0 ∨ (arrV _ _ _).slots.size ≤ _); rw [arrV_size]; exact hi) (by show (arrV _ _ _).slots[_]? = _; rw [arrV_read _ _ hlt, hg]; rfl) rfl rfl hd (kk H locs ls hP hS hl)
theorem i_aast (C : qC ce 0 ad cy (L ++ X) A D zs cc nL own Ts p s m args meth c ret) (q0 qk : Nat) {a n v : Nat} {vs : List Value} {f : Nat → Option Nat} (he : L[q0]? = some (a, .inl (cy 4, n, .inr (.inr (.inr (.inr f)))))) (hv : L[qk]? = some (v, .inr (3, vs))) {i : Int32} (hi : vp_in i n) (hd : decode cc pc = .ok (.aastore, 1)) (hL : L.set q0 (a, .inl (cy 4, n, .inr (.inr (.inr (.inr (va_up f i.toNatClampNeg (some v))))))) = L') (kk : qC ce 0 ad cy (L' ++ X) A D zs cc nL own Ts p s m args meth c ret → qW ce 0 ad cy (L' ++ X) A D p l e R s m args below meth c nL kc ks Q (pc + 1) lv st σ) : qW ce 0 ad cy (L ++ X) A D p l e R s m args below meth c nL kc ks Q pc lv (.ref v :: .int i :: .ref a :: st) σ := fun H locs ls hP hS hl => by
  refine va_astq (ws := L ++ X) C.1 C.2.1 C.2.2.2.2.2.1 hP (C.2.2.2.2.2.2.1 σ) hS q0 4 qk 3 (r := (RX3, TX3, 6)) (at_L he) rfl (at_L hv) rfl hi hd (fun H1 locs1 hP1 hD1 hS1 => ?_)
  rw [set_L he, hL] at hP1 hD1
  exact kk (i_C C hD1) H1 locs1 ls hP1 hS1 hl
theorem i_objinit (C : qC ce 0 ad cy X A D zs cc nL own Ts p s m args meth c ret) {idx : Nat} (h1 : Cond.methodLink own idx objectInit ∈ Ts) (h2 : Cond.instanceMethod objectInit ∈ Ts) (h3 : Cond.code objectInit ⟨#[0xb1]⟩ 1 none ∈ Ts) {a : Nat} (hd : decode cc pc = .ok (.invokespecial idx, 3)) (hfr : 1 ≤ R.frames) (hlo : 12 ≤ R.locals) (kk : qW ce 0 ad cy X A D p l e R s m args below meth c nL kc ks Q (pc + 3) lv [] σ) : qW ce 0 ad cy X A D p l e R s m args below meth c nL kc ks Q pc lv [.ref a] σ := fun H locs ls hP hS hl => by
  refine W.objInit C.1 C.2.1 C.2.2.2.1 (C.2.2.2.2.1 _ h1) (C.2.2.2.2.1 _ h2) (C.2.2.2.2.1 _ h3) rfl (by rw [C.2.2.1]; exact hl.1) rfl hd hfr hlo ?_
  exact kk H locs ls hP hS hl
theorem i_callI {L0 : va_W} {q : Nat} {e0 : va_E} {Wf : (Nat → Nat) → va_W} (C : qC ce 0 ad cy ((L0 ++ [(q, e0)]) ++ X) A D zs cc nL own Ts p s m args meth c ret) (hA : ∀ q, s.heap.size ≤ q → A q) (hE : iE s) {y : MethodName} {wsC wsC' : List Cond} {rm : Room} {bytes : ByteArray} {maxL n index mc ms : Nat} {As rest stk : List Value} (hM : Met l y wsC rm (iPc cy [(q, e0)] (L0 ++ X) A D zs (.ref q :: As)) (iQ Wf (L0 ++ X) A D) mc ms A) (hG : GoodIn Ts wsC) (hw : wsC = Cond.code y bytes maxL none :: wsC') (hrc : rm.cells = mc) (hrs : rm.slots = ms) (hini : Cond.initialized y.cls ∈ Ts) (hlink : Cond.methodLink own index y ∈ Ts) (hin : Cond.instanceMethod y ∈ Ts) (hy1 : y.name = "<init>") (hy : y.cls ≠ "java/lang/invoke/MethodHandle" ∧ y.cls ≠ "java/lang/invoke/VarHandle" ∧ (parseMethodDescriptor y.desc).map (fun d => d.parameters.length) = some n) (hR : rm.frames + 1 ≤ R.frames ∧ 8 + (maxL + 11) + rm.locals ≤ R.locals) (hn : As.length = n) (hst : stk = As.reverse ++ .ref q :: rest) (hcat : (rest.map fun v => v.category).sum ≤ 8) (hd : decode cc pc = .ok (.invokespecial index, 3)) (hf : kc + mc ≤ R.cells ∧ ks + ms ≤ R.slots) (kk : ∀ u, qC ce 0 ad cy ((L0 ++ Wf u) ++ X) A D zs cc nL own Ts p s m args meth c ret → qW ce 0 ad cy ((L0 ++ Wf u) ++ X) A D p l e R s m args below meth c nL (kc + mc) (ks + ms) Q (pc + 3) lv rest σ) : qW ce 0 ad cy ((L0 ++ [(q, e0)]) ++ X) A D p l e R s m args below meth c nL kc ks Q pc lv stk σ := fun H locs ls hP hS hl => by
  have hp : ((L0 ++ [(q, e0)]) ++ X).Perm ([(q, e0)] ++ (L0 ++ X)) := by
    rw [List.append_assoc]
    exact List.perm_middle
  have hP : va_P D vwCl ((L0 ++ [(q, e0)]) ++ X) H := hP
  have hPc := va_P_perm hP hp
  have hDc := va_D_perm (C.2.2.2.2.2.2.1 σ) hp
  subst hst
  refine va_callv (va_runI (As := As) (rest := rest) ⟨C.1, C.2.1, C.2.2.1, C.2.2.2.1, C.2.2.2.2.1⟩ hM (cwI n C.2.2.2.2.1 hG hw hrc hrs (C.2.2.2.2.1 _ hini) (C.2.2.2.2.1 _ hlink) (C.2.2.2.2.1 _ hin) hy1 hy hR) ⟨fun a U g mk z => ?_, fun U hU hW => ⟨rfl, by rw [hU]; exact hPc, va_K.moved hW.alike C.2.2.2.2.2.1, qE.go C.2.2.2.2.2.2.2.2.2 hS hU hW, hDc, fun z hz => hA z (Nat.le_trans hS.1 (by rw [← hU]; exact hz)), hE.go hW⟩⟩ rfl hn hl.1 rfl (lv_room hcat) hd hf) hS (fun z _ h => h) (fun z h => h) (fun u t H1 locs1 ht hvm hw hB hz1 hk1 hS1 => ?_)
  · obtain ⟨z0, z1, z2, z3, z4, z5, z6⟩ := z
    exact ⟨z0, z1, va_K.moved (u := U) (U := U.calling g mk a) (Vm.Alike.refl U.vm) z2, qE.blind z3, z4, z5, z6.blind⟩
  · obtain ⟨hP1, hD1⟩ := hB
    rw [ht] at hP1
    have hp2 : (Wf u ++ (L0 ++ X)).Perm ((L0 ++ Wf u) ++ X) := by
      rw [← List.append_assoc]
      exact List.perm_append_comm.append_right X
    exact kk u (i_C C (va_D_perm hD1 hp2)) H1 locs1 ls (va_P_perm hP1 hp2) hS1 hl
theorem i_callIN {L0 : va_W} {q : Nat} {e0 : va_E} {Wf : (Nat → Nat) → va_W} (C : qC ce 0 ad cy ((L0 ++ [(q, e0)]) ++ X) A D zs cc nL own Ts p s m args meth c ret) (hA : ∀ q, s.heap.size ≤ q → A q) (hE : iE s) {y : MethodName} {wsC wsC' : List Cond} {rm : Room} {bytes : ByteArray} {maxL n index mc ms : Nat} {As rest stk : List Value} {host : String} (hM : Met l y wsC rm (iPc cy [(q, e0)] (L0 ++ X) A D zs (.ref q :: As)) (iQ Wf (L0 ++ X) A D) mc ms A) (hG : GoodIn Ts wsC) (hw : wsC = Cond.code y bytes maxL none :: wsC') (hrc : rm.cells = mc) (hrs : rm.slots = ms) (hlink : va_Nw (.methodLinkNest own index y host) s) (hini : Cond.initialized y.cls ∈ Ts) (hin : Cond.instanceMethod y ∈ Ts) (hy1 : y.name = "<init>") (hy : y.cls ≠ "java/lang/invoke/MethodHandle" ∧ y.cls ≠ "java/lang/invoke/VarHandle" ∧ (parseMethodDescriptor y.desc).map (fun d => d.parameters.length) = some n) (hR : rm.frames + 1 ≤ R.frames ∧ 8 + (maxL + 11) + rm.locals ≤ R.locals) (hn : As.length = n) (hst : stk = As.reverse ++ .ref q :: rest) (hcat : (rest.map fun v => v.category).sum ≤ 8) (hd : decode cc pc = .ok (.invokespecial index, 3)) (hf : kc + mc ≤ R.cells ∧ ks + ms ≤ R.slots) (kk : ∀ u, qC ce 0 ad cy ((L0 ++ Wf u) ++ X) A D zs cc nL own Ts p s m args meth c ret → qW ce 0 ad cy ((L0 ++ Wf u) ++ X) A D p l e R s m args below meth c nL (kc + mc) (ks + ms) Q (pc + 3) lv rest σ) : qW ce 0 ad cy ((L0 ++ [(q, e0)]) ++ X) A D p l e R s m args below meth c nL kc ks Q pc lv stk σ := fun H locs ls hP hS hl => by
  have hp : ((L0 ++ [(q, e0)]) ++ X).Perm ([(q, e0)] ++ (L0 ++ X)) := by
    rw [List.append_assoc]
    exact List.perm_middle
  have hP : va_P D vwCl ((L0 ++ [(q, e0)]) ++ X) H := hP
  have hPc := va_P_perm hP hp
  have hDc := va_D_perm (C.2.2.2.2.2.2.1 σ) hp
  subst hst
  refine va_callv (va_runIN (As := As) (rest := rest) ⟨C.1, C.2.1, C.2.2.1, C.2.2.2.1, C.2.2.2.2.1⟩ hM ⟨va_cnB n C.2.2.2.2.1 hG hw hrc hrs hlink (C.2.2.2.2.1 _ hini) hy hR, hy1, C.2.2.2.2.1 _ hin⟩ ⟨fun a U g mk z => ?_, fun U hU hW => ⟨rfl, by rw [hU]; exact hPc, va_K.moved hW.alike C.2.2.2.2.2.1, qE.go C.2.2.2.2.2.2.2.2.2 hS hU hW, hDc, fun z hz => hA z (Nat.le_trans hS.1 (by rw [← hU]; exact hz)), hE.go hW⟩⟩ rfl hn hl.1 rfl (lv_room hcat) hd hf) hS (fun z _ h => h) (fun z h => h) (fun u t H1 locs1 ht hvm hw hB hz1 hk1 hS1 => ?_)
  · obtain ⟨z0, z1, z2, z3, z4, z5, z6⟩ := z
    exact ⟨z0, z1, va_K.moved (u := U) (U := U.calling g mk a) (Vm.Alike.refl U.vm) z2, qE.blind z3, z4, z5, z6.blind⟩
  · obtain ⟨hP1, hD1⟩ := hB
    rw [ht] at hP1
    have hp2 : (Wf u ++ (L0 ++ X)).Perm ((L0 ++ Wf u) ++ X) := by
      rw [← List.append_assoc]
      exact List.perm_append_comm.append_right X
    exact kk u (i_C C (va_D_perm hD1 hp2)) H1 locs1 ls (va_P_perm hP1 hp2) hS1 hl
theorem i_vret {Wf : (Nat → Nat) → va_W} (C : qC ce 0 ad cy (L ++ X) A D zs cc nL own Ts p s m args meth c none) (u : Nat → Nat) (hu : L = Wf u) (hd : decode cc pc = .ok (.return_, 1)) : qW ce 0 ad cy (L ++ X) A D p l e R s m args below meth c nL kc ks (MQ below (iQ Wf X A D) args s kc ks A) pc lv [] σ := fun H locs ls hP hS hl => by
  subst hu
  have hD : va_D A (Wf u ++ X) := C.2.2.2.2.2.2.1 σ
  exact W.vret C.1 C.2.1 C.2.2.2.2.2.2.2.1 (fun t ht hW => ⟨⟨u, rfl, trivial, by rw [ht]; exact hP, hD⟩, hS.F ht⟩) hS.2.2 hd C.2.2.2.2.2.2.2.2.1
theorem i_icmp_ge (C : qC ce 0 ad cy X A D zs cc nL own Ts p s m args meth c ret) {off : Int} {tgt : Nat} {x y : Int32} (hd : decode cc pc = .ok (.if_icmp .ge off, 3)) (ht : (pc : Int) + off = tgt) (hc : y ≤ x) (kk : qW ce 0 ad cy X A D p l e R s m args below meth c nL kc ks Q tgt lv st σ) : qW ce 0 ad cy X A D p l e R s m args below meth c nL kc ks Q pc lv (.int y :: .int x :: st) σ := fun H locs ls hP hS hl => lv_icmp_ge C.1 C.2.1 hd ht (fun _ => kk H locs ls hP hS hl) (fun h => absurd hc h)
end IROWS
