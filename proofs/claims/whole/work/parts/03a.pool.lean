-- ===== the pool: the cells of a system by numbers; its state is pure =====
/-- what the cells hold: ints by cell and place, longs, and which text stands where -/
abbrev St : Type := (Nat → Nat → Int32) × (Nat → Nat → Int64) × (Nat → Nat)
abbrev qCE : Type := (Nat → Nat) → (Nat → ClassId) → (Nat → Nat) → Nat → (Nat → Int32) → (Nat → Int64) → va_E
def qw (ce : qCE) (N : Nat) (ad : Nat → Nat) (cy : Nat → ClassId) (σ : St) : va_W := (List.range N).map (fun i => (ad i, ce ad cy σ.2.2 i (σ.1 i) (σ.2.1 i)))
abbrev qtys (cy : Nat → ClassId) : List (ClassId × FieldType) := [(cy 0, .byte), (cy 1, .int), (cy 2, .long), (cy 3, .boolean), (cy 4, .object "CrescentCourt$Text"), (cy 5, .array .byte), (cy 6, .array .int)]
def sI (σ : St) (i k : Nat) (v : Int32) : St := (fun j => if j = i then upd (σ.1 i) k v else σ.1 j, σ.2)
def sR (σ : St) (i : Nat) (f : Nat → Int32) : St := (fun j => if j = i then f else σ.1 j, σ.2)
def sJ (σ : St) (i k : Nat) (v : Int64) : St := (σ.1, (fun j => if j = i then vp_updL (σ.2.1 i) k v else σ.2.1 j), σ.2.2)
def sT (σ : St) (k v : Nat) : St := (σ.1, σ.2.1, va_up σ.2.2 k v)
theorem qw_len {ce : qCE} {N : Nat} {ad : Nat → Nat} {cy : Nat → ClassId} {σ : St} : (qw ce N ad cy σ).length = N := by simp [qw]
theorem qw_get {ce : qCE} {N : Nat} {ad : Nat → Nat} {cy : Nat → ClassId} {σ : St} {X : va_W} {i : Nat} (h : i < N) : (qw ce N ad cy σ ++ X)[i]? = some (ad i, ce ad cy σ.2.2 i (σ.1 i) (σ.2.1 i)) := by
  rw [List.getElem?_append_left (by rw [qw_len]; exact h)]
  simp [qw, h]
theorem qw_out {ce : qCE} {N : Nat} {ad : Nat → Nat} {cy : Nat → ClassId} {σ : St} {X : va_W} {i : Nat} (h : ¬ i < N) : (qw ce N ad cy σ ++ X)[i]? = X[i - N]? := by
  rw [List.getElem?_append_right (by rw [qw_len]; omega), qw_len]
theorem qw_set {ce : qCE} {N : Nat} {ad : Nat → Nat} {cy : Nat → ClassId} {σ σ' : St} {X : va_W} {i : Nat} {e : va_E} (h : i < N)
    (hs : ∀ j, j ≠ i → ce ad cy σ'.2.2 j (σ'.1 j) (σ'.2.1 j) = ce ad cy σ.2.2 j (σ.1 j) (σ.2.1 j)) (hi : ce ad cy σ'.2.2 i (σ'.1 i) (σ'.2.1 i) = e) : (qw ce N ad cy σ ++ X).set i (ad i, e) = qw ce N ad cy σ' ++ X := by
  apply List.ext_getElem?
  intro j
  by_cases hj : j = i
  · subst hj
    rw [List.getElem?_set_self (by rw [List.length_append, qw_len]; omega), qw_get h, hi]
  · rw [List.getElem?_set_ne (Ne.symm hj)]
    by_cases hN : j < N
    · rw [qw_get hN, qw_get hN, hs j hj]
    · rw [qw_out hN, qw_out hN]
-- ===== the pure programs' words =====
def qlet {α β : Type} (e : α) (f : α → β) : β := f e
def qix {β : Type} (i : Int32) (n : Nat) (b : Option β) : Option β := if 0 ≤ i ∧ i.toNatClampNeg < n then b else none
def qtx {β : Type} (t : Nat) (b : Option β) : Option β := if t < 7 then b else none
def qzz {β : Type} (x : Int32) (b : Option β) : Option β := if x = 0 ∨ x = 1 then b else none
def qnz {β : Type} (x : Int32) (b : Option β) : Option β := if x = 0 then none else b
def qcall {α β : Type} (e : Option (α × St)) (f : α → St → Option β) : Option β := e.bind (fun p => f p.1 p.2)
theorem qix_some {β : Type} {i : Int32} {n : Nat} {b : Option β} {o : β} (h : qix i n b = some o) : vp_in i n ∧ b = some o := by
  unfold qix at h
  split at h
  · rename_i c
    refine ⟨fun q => ?_, h⟩
    rcases q with q | q
    · exact absurd c.1 (by rw [Int32.not_le]; exact q)
    · omega
  · cases h
theorem qtx_some {β : Type} {t : Nat} {b : Option β} {o : β} (h : qtx t b = some o) : t < 7 ∧ b = some o := by
  unfold qtx at h
  split at h
  · exact ⟨by assumption, h⟩
  · cases h
theorem qzz_some {β : Type} {x : Int32} {b : Option β} {o : β} (h : qzz x b = some o) : (x = 0 ∨ x = 1) ∧ b = some o := by
  unfold qzz at h
  split at h
  · exact ⟨by assumption, h⟩
  · cases h
theorem qnz_some {β : Type} {x : Int32} {b : Option β} {o : β} (h : qnz x b = some o) : ¬ x = 0 ∧ b = some o := by
  unfold qnz at h
  split at h
  · cases h
  · exact ⟨by assumption, h⟩
theorem qcall_some {α β : Type} {e : Option (α × St)} {f : α → St → Option β} {o : β} (h : qcall e f = some o) : ∃ (r : α) (σ : St), e = some (r, σ) ∧ f r σ = some o := by
  unfold qcall at h
  cases e with
  | none => cases h
  | some p => exact ⟨p.1, p.2, rfl, h⟩
-- ===== locals in the order of their places =====
def lvi (q : Nat × Value) : List (Nat × Value) → List (Nat × Value)
  | [] => [q]
  | r :: l => if q.1 < r.1 then q :: r :: l else r :: lvi q l
theorem lvi_mem {q x : Nat × Value} : ∀ {l : List (Nat × Value)}, x ∈ lvi q l → x = q ∨ x ∈ l
  | [], h => by
    rw [lvi, List.mem_singleton] at h
    exact Or.inl h
  | r :: l, h => by
    rw [lvi] at h
    split at h
    · exact List.mem_cons.mp h
    · rcases List.mem_cons.mp h with h | h
      · exact Or.inr (by rw [h]; exact List.mem_cons_self)
      · rcases lvi_mem h with h | h
        · exact Or.inl h
        · exact Or.inr (List.mem_cons_of_mem _ h)
abbrev lvs (i : Nat) (v : Value) (l : List (Nat × Value)) : List (Nat × Value) := lvi (i, v) (l.filter (fun q => !(q.1 == i) && !(q.1 + 1 == i && q.2.category == 2)))
abbrev lvsL (i : Nat) (v : Value) (l : List (Nat × Value)) : List (Nat × Value) := lvi (i, v) (l.filter (fun q => !(q.1 == i) && (!(q.1 == i + 1) && !(q.1 + 1 == i && q.2.category == 2))))
theorem lvi_has {ls : Array Slot} {n : Nat} {q : Nat × Value} {l : List (Nat × Value)} (h : lv_has ls n (q :: l)) : lv_has ls n (lvi q l) :=
  ⟨h.1, h.2.1, fun x hx => h.2.2 x (by rcases lvi_mem hx with e | e; exact List.mem_cons.mpr (Or.inl e); exact List.mem_cons_of_mem _ e)⟩
-- ===== what else the methods need of the machine: a nest mate's link, the words' String, two statics =====
def wordsT : String := "begin not back if or and days seen worth best light cloud others month "
def wordsB : List Int32 := [98, 101, 103, 105, 110, 32, 110, 111, 116, 32, 98, 97, 99, 107, 32, 105, 102, 32, 111, 114, 32, 97, 110, 100, 32, 100, 97, 121, 115, 32, 115, 101, 101, 110, 32, 119, 111, 114, 116, 104, 32, 98, 101, 115, 116, 32, 108, 105, 103, 104, 116, 32, 99, 108, 111, 117, 100, 32, 111, 116, 104, 101, 114, 115, 32, 109, 111, 110, 116, 104, 32]
def wordsAt (k : Nat) : Int32 := wordsB.getD k 0 &&& 255
def qE (zs : Nat × Nat × Option Nat) (A : Nat → Prop) (U : State) (H : Heap) : Prop :=
  va_Nw (.methodLinkNest "CrescentCourt$Months" 134 yX5_isEvening "CrescentCourt") U ∧ vk_R "CrescentCourt$Reader" 131 wordsT zs.1 U ∧ vk_S 1 [71] [wordsB] (fun _ => zs.1) (fun _ => zs.2.1) A U H ∧ va_Z "java/lang/String" "COMPACT_STRINGS" "Z" (.int 1) A U H ∧ va_Z "jdk/internal/util/Preconditions" "SIOOBE_FORMATTER" "Ljava/util/function/BiFunction;" (va_rf zs.2.2) A U H
theorem qE.go {zs : Nat × Nat × Option Nat} {A : Nat → Prop} {s U : State} {H : Heap} {locs : List Loc} (h : qE zs A s s.heap) (hS : va_S A s.heap H locs) (hU : U.heap = H) (hW : s.WarmedH U.vm) : qE zs A U U.heap := by
  obtain ⟨h1, h2, h3, h4, h5⟩ := h
  rw [hU]
  exact ⟨va_Nw.warmM hW h1, vk_R.warm hW h2, vk_S.moved hW.alike (vk_S.kept h3 hS.2.1), va_Z.moved hW.alike (va_Z.kept h4 hS.2.1), va_Z.moved hW.alike (va_Z.kept h5 hS.2.1)⟩
theorem qE.blind {zs : Nat × Nat × Option Nat} {A : Nat → Prop} {U : State} {g : JFrame} {mk : MethodId} {a : Array Value} (h : qE zs A U U.heap) : qE zs A (U.calling g mk a) (U.calling g mk a).heap := by
  obtain ⟨h1, h2, h3, h4, h5⟩ := h
  exact ⟨va_tabs (A := #[]) (u := U) rfl rfl h1, vk_R.same (u := U) rfl h2, vk_S.moved (Vm.Alike.refl U.vm) h3, va_Z.moved (Vm.Alike.refl U.vm) h4, va_Z.moved (Vm.Alike.refl U.vm) h5⟩
-- ===== the judgement over the pool =====
def qW (ce : qCE) (N : Nat) (ad : Nat → Nat) (cy : Nat → ClassId) (X : va_W) (A : Nat → Prop) (D : va_G) (p : Program) (l : Launch) (e : Env) (R : Room) (s : State) (m : MethodId) (args : Array Value) (below : List Frame) (meth : Method) (c : Code) (nL kc ks : Nat) (Q : State → Prop) (pc : Nat) (lv : List (Nat × Value)) (st : List Value) (σ : St) : Prop :=
  ∀ (H : Heap) (locs : List Loc) (ls : Array Slot), va_P D vwCl (qw ce N ad cy σ ++ X) H → va_S A s.heap H locs → lv_has ls nL lv → W p l e R s m args below meth c H locs kc ks Q (F0 m pc ls st)
def qC (ce : qCE) (N : Nat) (ad : Nat → Nat) (cy : Nat → ClassId) (X : va_W) (A : Nat → Prop) (D : va_G) (zs : Nat × Nat × Option Nat) (cc : ByteArray) (nL : Nat) (own : String) (Ts : List Cond) (p : Program) (s : State) (m : MethodId) (args : Array Value) (meth : Method) (c : Code) (ret : Option FieldType) : Prop :=
  p.tables.exec = Jvm.exec ∧ c.code = cc ∧ c.maxLocals = nL ∧ s.vm.findClass own = some m.cls ∧ (∀ w ∈ Ts, w.before args s = true) ∧ va_K D vwCl (qtys cy) s ∧ (∀ σ, va_D A (qw ce N ad cy σ ++ X)) ∧ meth.sig.returnType = ret ∧ meth.locks = false ∧ qE zs A s s.heap
/-- a contract's start: these arguments, this state -/
def qPc (ce : qCE) (N : Nat) (ad : Nat → Nat) (cy : Nat → ClassId) (X : va_W) (A : Nat → Prop) (D : va_G) (zs : Nat × Nat × Option Nat) (av : List Value) (σ : St) : Array Value → State → Prop :=
  va_Pc av (fun U => va_P D vwCl (qw ce N ad cy σ ++ X) U.heap ∧ va_K D vwCl (qtys cy) U ∧ qE zs A U U.heap ∧ ∀ σ, va_D A (qw ce N ad cy σ ++ X))
def qB (ce : qCE) (N : Nat) (ad : Nat → Nat) (cy : Nat → ClassId) (X : va_W) (D : va_G) (u : St) (t : State) : Prop := va_P D vwCl (qw ce N ad cy u ++ X) t.heap
def qQi (ce : qCE) (N : Nat) (ad : Nat → Nat) (cy : Nat → ClassId) (X : va_W) (A : Nat → Prop) (D : va_G) (r0 : Int32) (σ0 : St) : Array Value → State → Outcome → State → Prop := va_Qi (fun r u => r = r0 ∧ u = σ0) (qB ce N ad cy X D) A
def qQl (ce : qCE) (N : Nat) (ad : Nat → Nat) (cy : Nat → ClassId) (X : va_W) (A : Nat → Prop) (D : va_G) (r0 : Int64) (σ0 : St) : Array Value → State → Outcome → State → Prop := va_Ql (fun r u => r = r0 ∧ u = σ0) (qB ce N ad cy X D) A
def qQv (ce : qCE) (N : Nat) (ad : Nat → Nat) (cy : Nat → ClassId) (X : va_W) (A : Nat → Prop) (D : va_G) (σ0 : St) : Array Value → State → Outcome → State → Prop := va_Qv (fun u => u = σ0) (qB ce N ad cy X D) A
abbrev qVi (ce : qCE) (N : Nat) (ad : Nat → Nat) (cy : Nat → ClassId) (X : va_W) (A : Nat → Prop) (D : va_G) (p : Program) (l : Launch) (e : Env) (R : Room) (s : State) (m : MethodId) (args : Array Value) (below : List Frame) (meth : Method) (c : Code) (nL : Nat) (r0 : Int32) (σ0 : St) (pc : Nat) (lv : List (Nat × Value)) (st : List Value) (σ : St) : Prop := qW ce N ad cy X A D p l e R s m args below meth c nL 0 0 (MQ below (qQi ce N ad cy X A D r0 σ0) args s 0 0 A) pc lv st σ
abbrev qVl (ce : qCE) (N : Nat) (ad : Nat → Nat) (cy : Nat → ClassId) (X : va_W) (A : Nat → Prop) (D : va_G) (p : Program) (l : Launch) (e : Env) (R : Room) (s : State) (m : MethodId) (args : Array Value) (below : List Frame) (meth : Method) (c : Code) (nL : Nat) (r0 : Int64) (σ0 : St) (pc : Nat) (lv : List (Nat × Value)) (st : List Value) (σ : St) : Prop := qW ce N ad cy X A D p l e R s m args below meth c nL 0 0 (MQ below (qQl ce N ad cy X A D r0 σ0) args s 0 0 A) pc lv st σ
abbrev qVv (ce : qCE) (N : Nat) (ad : Nat → Nat) (cy : Nat → ClassId) (X : va_W) (A : Nat → Prop) (D : va_G) (p : Program) (l : Launch) (e : Env) (R : Room) (s : State) (m : MethodId) (args : Array Value) (below : List Frame) (meth : Method) (c : Code) (nL : Nat) (r0 : Int32) (σ0 : St) (pc : Nat) (lv : List (Nat × Value)) (st : List Value) (σ : St) : Prop := qW ce N ad cy X A D p l e R s m args below meth c nL 0 0 (MQ below (qQv ce N ad cy X A D σ0) args s 0 0 A) pc lv st σ
