theorem if10 {α : Type} {x y : α} : (if (1 : Int32) = 0 then x else y) = y := if_neg (by decide)
theorem if00 {α : Type} {x y : α} : (if (0 : Int32) = 0 then x else y) = x := if_pos rfl
-- ===== the codes of a text, and what they are worth =====
abbrev Op : Type := Nat ⊕ (Nat ⊕ Nat)
abbrev Op.num (v : Nat) : Op := Sum.inl v
abbrev Op.var (v : Nat) : Op := Sum.inr (Sum.inl v)
abbrev Op.bin (v : Nat) : Op := Sum.inr (Sum.inr v)
def b2 (b : Bool) : Int32 := if b = true then 1 else 0
def relB (k : Nat) (a b : Int32) : Bool := if k = 19 then decide (a = b) else if k = 20 then !decide (a = b) else if k = 21 then !decide (b ≤ a) else !decide (b < a)
def appS (k : Nat) (a b : Int32) : Int32 := if k = 4 then a ||| b else if k = 5 then a &&& b else if k = 16 then a + b else if k = 17 then a - b else if k = 18 then a * b else if k = 19 then (if a = b then 1 else 0) else if k = 20 then (if a = b then 0 else 1) else if k = 21 then (if b ≤ a then 0 else 1) else if k = 22 then (if b < a then 0 else 1) else 0
def apS (k : Nat) : List Int32 → List Int32
  | b :: a :: s => appS k a b :: s
  | s => s
def ex (V : Nat → Int32) : List Op → List Int32 → List Int32
  | [], s => s
  | Sum.inl v :: r, s => ex V r (nI v :: s)
  | Sum.inr (Sum.inl i) :: r, s => ex V r (V i :: s)
  | Sum.inr (Sum.inr k) :: r, s => ex V r (apS k s)
/-- how deep the stack is behind a code, if it never runs dry and never passes c -/
def dp (c : Nat) : List Op → Nat → Option Nat
  | [], k => some k
  | Sum.inl _ :: r, k => if k < c then dp c r (k + 1) else none
  | Sum.inr (Sum.inl _) :: r, k => if k < c then dp c r (k + 1) else none
  | Sum.inr (Sum.inr _) :: r, k => if 2 ≤ k then dp c r (k - 1) else none
theorem b2_or (a b : Bool) : b2 a ||| b2 b = b2 (a || b) := by cases a <;> cases b <;> decide
theorem b2_and (a b : Bool) : b2 a &&& b2 b = b2 (a && b) := by cases a <;> cases b <;> decide
theorem b2_01 (a : Bool) : b2 a = 0 ∨ b2 a = 1 := by cases a <;> decide
theorem b2_0 {a : Bool} : b2 a = 0 ↔ a = false := by cases a <;> decide
theorem appS_rel {k : Nat} (h1 : 19 ≤ k) (h2 : k ≤ 22) (a b : Int32) : appS k a b = b2 (relB k a b) := by
  unfold appS relB b2
  rcases (show k = 19 ∨ k = 20 ∨ k = 21 ∨ k = 22 by omega) with rfl | rfl | rfl | rfl
  · by_cases q : a = b <;> simp [q]
  · by_cases q : a = b <;> simp [q]
  · by_cases q : b ≤ a <;> simp [q]
  · by_cases q : b < a <;> simp [q]
theorem ex_app (V : Nat → Int32) : ∀ (A B : List Op) (s : List Int32), ex V (A ++ B) s = ex V B (ex V A s)
  | [], B, s => rfl
  | Sum.inl v :: r, B, s => by rw [List.cons_append, ex, ex, ex_app V r B]
  | Sum.inr (Sum.inl v) :: r, B, s => by rw [List.cons_append, ex, ex, ex_app V r B]
  | Sum.inr (Sum.inr v) :: r, B, s => by rw [List.cons_append, ex, ex, ex_app V r B]
theorem dp_app (c : Nat) : ∀ (A B : List Op) (k : Nat), dp c (A ++ B) k = (dp c A k).bind (dp c B)
  | [], B, s => rfl
  | Sum.inl v :: r, B, s => by
    rw [List.cons_append, dp, dp, dp_app c r B]
    split <;> rfl
  | Sum.inr (Sum.inl v) :: r, B, s => by
    rw [List.cons_append, dp, dp, dp_app c r B]
    split <;> rfl
  | Sum.inr (Sum.inr v) :: r, B, s => by
    rw [List.cons_append, dp, dp, dp_app c r B]
    split <;> rfl
theorem dp_shift {c b c' : Nat} (hc : c + b ≤ c') : ∀ {A : List Op} {k m : Nat}, dp c A k = some m → dp c' A (k + b) = some (m + b)
  | [], k, m, h => by
    rw [dp, Option.some.injEq] at h
    rw [dp, h]
  | Sum.inl v :: r, k, m, h => by
    rw [dp] at h ⊢
    split at h
    · rw [if_pos (by omega), show k + b + 1 = k + 1 + b by omega]
      exact dp_shift hc h
    · cases h
  | Sum.inr (Sum.inl v) :: r, k, m, h => by
    rw [dp] at h ⊢
    split at h
    · rw [if_pos (by omega), show k + b + 1 = k + 1 + b by omega]
      exact dp_shift hc h
    · cases h
  | Sum.inr (Sum.inr v) :: r, k, m, h => by
    rw [dp] at h ⊢
    split at h
    · rw [if_pos (by omega), show k + b - 1 = k - 1 + b by omega]
      exact dp_shift hc h
    · cases h
theorem apS_app (k : Nat) {t s : List Int32} (h : 2 ≤ t.length) : apS k (t ++ s) = apS k t ++ s := by
  match t, h with
  | b :: a :: t, _ => rfl
theorem apS_len (k : Nat) {t : List Int32} (h : 2 ≤ t.length) : (apS k t).length = t.length - 1 := by
  match t, h with
  | b :: a :: t, _ => simp [apS]
theorem ex_len (V : Nat → Int32) (c : Nat) : ∀ {A : List Op} {t : List Int32} {m : Nat}, dp c A t.length = some m → (ex V A t).length = m
  | [], t, m, h => by
    rw [dp, Option.some.injEq] at h
    exact h
  | Sum.inl v :: r, t, m, h => by
    rw [dp] at h
    split at h
    · exact ex_len V c (t := nI v :: t) h
    · cases h
  | Sum.inr (Sum.inl v) :: r, t, m, h => by
    rw [dp] at h
    split at h
    · exact ex_len V c (t := V v :: t) h
    · cases h
  | Sum.inr (Sum.inr v) :: r, t, m, h => by
    rw [dp] at h
    split at h
    · rename_i q
      rw [ex]
      exact ex_len V c (t := apS v t) (by rw [apS_len v q]; exact h)
    · cases h
theorem ex_frame (V : Nat → Int32) (c : Nat) (s : List Int32) : ∀ {A : List Op} {t : List Int32} {m : Nat}, dp c A t.length = some m → ex V A (t ++ s) = ex V A t ++ s
  | [], t, m, h => rfl
  | Sum.inl v :: r, t, m, h => by
    rw [dp] at h
    split at h
    · exact ex_frame V c s (t := nI v :: t) h
    · cases h
  | Sum.inr (Sum.inl v) :: r, t, m, h => by
    rw [dp] at h
    split at h
    · exact ex_frame V c s (t := V v :: t) h
    · cases h
  | Sum.inr (Sum.inr v) :: r, t, m, h => by
    rw [dp] at h
    split at h
    · rename_i q
      rw [ex, ex, apS_app v q]
      exact ex_frame V c s (t := apS v t) (by rw [apS_len v q]; exact h)
    · cases h
def valS (V : Nat → Int32) (L : List Op) : Int32 := (ex V L []).headD 0
theorem ex_val (V : Nat → Int32) {c : Nat} {L : List Op} (h : dp c L 0 = some 1) (s : List Int32) : ex V L s = valS V L :: s := by
  have h1 := ex_frame V c s (A := L) (t := []) h
  have h2 := ex_len V c (A := L) (t := []) h
  rw [List.nil_append] at h1
  rw [h1, valS]
  match ex V L [], h2 with
  | [x], _ => rfl
-- ===== relations =====
abbrev Rel : Type := Bool × (List Op × (Nat × List Op))
abbrev Rel.o (r : Rel) : Bool := Prod.fst r
abbrev Rel.L (r : Rel) : List Op := Prod.fst (Prod.snd r)
abbrev Rel.k (r : Rel) : Nat := Prod.fst (Prod.snd (Prod.snd r))
abbrev Rel.R (r : Rel) : List Op := Prod.snd (Prod.snd (Prod.snd r))
def okOp : Op → Prop
  | Sum.inl v => v < 10000
  | Sum.inr (Sum.inl i) => i < 8
  | Sum.inr (Sum.inr k) => 16 ≤ k ∧ k ≤ 18
def okOpC : Op → Prop
  | Sum.inl v => v < 10000
  | Sum.inr (Sum.inl i) => i < 8
  | Sum.inr (Sum.inr k) => k = 4 ∨ k = 5 ∨ (16 ≤ k ∧ k ≤ 22)
theorem okOp.c {o : Op} (h : okOp o) : okOpC o := by
  match o, h with
  | Sum.inl v, h => exact h
  | Sum.inr (Sum.inl v), h => exact h
  | Sum.inr (Sum.inr k), h => exact Or.inr (Or.inr ⟨h.1, by have := h.2; omega⟩)
def okEx (L : List Op) : Prop := (∀ o ∈ L, okOp o) ∧ dp 16 L 0 = some 1
def okRel (r : Rel) : Prop := okEx (Rel.L r) ∧ okEx (Rel.R r) ∧ 19 ≤ (Rel.k r) ∧ (Rel.k r) ≤ 22
/-- the latest relation first; the first one told opens a group -/
def okRs : List Rel → Prop
  | [] => True
  | r :: rs => okRel r ∧ (rs = [] → (Rel.o r) = true) ∧ okRs rs
/-- the class's code of the relations told, and the signs that wait behind it, the latest first -/
def cc : List Rel → Bool → List Op × List Nat
  | [], _ => ([], [])
  | r :: rs, o => if o = true then ((cc rs (Rel.o r)).1 ++ ((Rel.L r) ++ ((Rel.R r) ++ (Op.bin (Rel.k r) :: (cc rs (Rel.o r)).2.map Op.bin))), [4]) else ((cc rs (Rel.o r)).1 ++ ((Rel.L r) ++ ((Rel.R r) ++ (Op.bin (Rel.k r) :: ((cc rs (Rel.o r)).2.filter (fun x => x == 5)).map Op.bin))), 5 :: (cc rs (Rel.o r)).2.filter (fun x => !(x == 5)))
def rbS (V : Nat → Int32) (r : Rel) : Bool := relB (Rel.k r) (valS V (Rel.L r)) (valS V (Rel.R r))
def fo (V : Nat → Int32) : List Rel → Bool × Bool
  | [] => (false, false)
  | r :: rs => if (Rel.o r) = true then ((fo V rs).1 || (fo V rs).2, rbS V r) else ((fo V rs).1, (fo V rs).2 && rbS V r)
theorem ex_rel (V : Nat → Int32) {r : Rel} (h : okRel r) (Z : List Op) (s : List Int32) : ex V ((Rel.L r) ++ ((Rel.R r) ++ (Op.bin (Rel.k r) :: Z))) s = ex V Z (b2 (rbS V r) :: s) := by
  rw [ex_app, ex_val V h.1.2, ex_app, ex_val V h.2.1.2, ex, apS, appS_rel h.2.2.1 h.2.2.2]
  rfl
theorem dp_rel {r : Rel} (h : okRel r) (Z : List Op) {k : Nat} (hk : k ≤ 2) : dp 32 ((Rel.L r) ++ ((Rel.R r) ++ (Op.bin (Rel.k r) :: Z))) k = dp 32 Z (k + 1) := by
  have h1 := dp_shift (c := 16) (b := k) (c' := 32) (by omega) h.1.2
  have h2 := dp_shift (c := 16) (b := k + 1) (c' := 32) (by omega) h.2.1.2
  rw [Nat.zero_add] at h1
  rw [Nat.zero_add] at h2
  rw [dp_app, h1, Option.bind_some, Nat.add_comm 1 k, dp_app, h2, Option.bind_some, dp, if_pos (by omega)]
  congr 1
  omega
def CcIs (V : Nat → Int32) (rs : List Rel) (o : Bool) : Prop := dp 32 (cc rs o).1 0 = some (cc rs o).2.length ∧ ((o = true ∧ (cc rs o).2 = [4] ∧ ex V (cc rs o).1 [] = [b2 ((fo V rs).1 || (fo V rs).2)]) ∨ (o = false ∧ (cc rs o).2 = [5] ∧ (fo V rs).1 = false ∧ ex V (cc rs o).1 [] = [b2 (fo V rs).2]) ∨ (o = false ∧ (cc rs o).2 = [5, 4] ∧ ex V (cc rs o).1 [] = [b2 (fo V rs).2, b2 (fo V rs).1]))
theorem cc_is (V : Nat → Int32) : ∀ (rs : List Rel), okRs rs → rs ≠ [] → ∀ o, CcIs V rs o
  | [], _, h, _ => absurd rfl h
  | r :: rs, h, _, o => by
    obtain ⟨hr, h1, hrs⟩ := h
    by_cases e : rs = []
    · subst e
      have ho := h1 rfl
      unfold CcIs
      cases o
      · simp only [cc, fo, ho, List.map_nil, List.filter_nil, ex_rel V hr, dp_rel hr _ (show 0 ≤ 2 by omega), List.nil_append, ex, dp, if_true]
        simp [ex, dp, ex_rel V hr, dp_rel hr _ (show 0 ≤ 2 by omega)]
      · simp only [cc, fo, ho, List.map_nil, List.filter_nil, ex_rel V hr, dp_rel hr _ (show 0 ≤ 2 by omega), List.nil_append, ex, dp, if_true]
        simp [ex, dp, ex_rel V hr, dp_rel hr _ (show 0 ≤ 2 by omega)]
    · have ih := cc_is V rs hrs e (Rel.o r)
      obtain ⟨d, ih⟩ := ih
      have hx : ∀ Z, ex V ((cc rs (Rel.o r)).1 ++ ((Rel.L r) ++ ((Rel.R r) ++ (Op.bin (Rel.k r) :: Z)))) [] = ex V Z (b2 (rbS V r) :: ex V (cc rs (Rel.o r)).1 []) := fun Z => by rw [ex_app, ex_rel V hr]
      have hd : (cc rs (Rel.o r)).2.length ≤ 2 → ∀ Z, dp 32 ((cc rs (Rel.o r)).1 ++ ((Rel.L r) ++ ((Rel.R r) ++ (Op.bin (Rel.k r) :: Z)))) 0 = dp 32 Z ((cc rs (Rel.o r)).2.length + 1) := fun q Z => by rw [dp_app, d, Option.bind_some, dp_rel hr _ q]
      unfold CcIs
      rcases ih with ⟨i1, i2, i3⟩ | ⟨i1, i2, i3, i4⟩ | ⟨i1, i2, i3⟩
      · have hd := hd (by rw [i2]; decide)
        rw [i1] at hx hd i2 i3
        cases o <;> simp [cc, fo, i1, hx, hd, i2, i3, ex, dp, apS, appS, b2_or]
      · have hd := hd (by rw [i2]; decide)
        rw [i1] at hx hd i2 i4
        cases o <;> simp [cc, fo, i1, hx, hd, i2, i3, i4, ex, dp, apS, appS, b2_and]
      · have hd := hd (by rw [i2]; decide)
        rw [i1] at hx hd i2 i3
        cases o <;> simp [cc, fo, i1, hx, hd, i2, i3, ex, dp, apS, appS, b2_and, b2_or]
/-- the reference's way: relation by relation -/
def goS (V : Nat → Int32) : Bool → List Rel → Bool
  | a, [] => a
  | a, r :: rs => if ((Rel.o r) && a) = true then true else goS V (((Rel.o r) || a) && rbS V r) rs
def foS (V : Nat → Int32) (p : Bool × Bool) (r : Rel) : Bool × Bool := if (Rel.o r) = true then (p.1 || p.2, rbS V r) else (p.1, p.2 && rbS V r)
theorem fo_rev (V : Nat → Int32) : ∀ rs : List Rel, fo V rs = rs.foldr (fun r p => foS V p r) (false, false)
  | [] => rfl
  | r :: rs => by rw [fo, fo_rev V rs]; rfl
theorem foS_true (V : Nat → Int32) : ∀ (rs : List Rel) (b : Bool), ((rs.foldl (foS V) (true, b)).1 || (rs.foldl (foS V) (true, b)).2) = true
  | [], b => by simp
  | r :: rs, b => by
    rw [List.foldl_cons]
    have : ∃ c, foS V (true, b) r = (true, c) := by
      unfold foS
      split
      · exact ⟨rbS V r, by simp⟩
      · exact ⟨_, rfl⟩
    obtain ⟨c, e⟩ := this
    rw [e]
    exact foS_true V rs c
theorem goS_is (V : Nat → Int32) : ∀ (rs : List Rel) (b : Bool), goS V b rs = ((rs.foldl (foS V) (false, b)).1 || (rs.foldl (foS V) (false, b)).2)
  | [], b => by simp [goS]
  | r :: rs, b => by
    rw [goS, List.foldl_cons]
    cases ho : (Rel.o r) <;> cases b
    · simp only [Bool.and_false, Bool.false_and, Bool.or_false]
      rw [if_neg (by decide), goS_is V rs]
      simp [foS, ho]
    · simp only [Bool.and_true, Bool.false_or, Bool.true_and]
      rw [if_neg (by decide), goS_is V rs]
      simp [foS, ho]
    · simp only [Bool.and_false, Bool.or_false, Bool.true_and]
      rw [if_neg (by decide), goS_is V rs]
      simp [foS, ho]
    · simp only [Bool.and_true]
      rw [if_pos trivial]
      have : foS V (false, true) r = (true, rbS V r) := by simp [foS, ho]
      rw [this, foS_true]
/-- both ways come to one -/
theorem both_ways (V : Nat → Int32) {rs : List Rel} (h : okRs rs) (hn : rs ≠ []) : dp 32 (cc rs true).1 0 = some 1 ∧ ex V (cc rs true).1 [] = [b2 (goS V false rs.reverse)] := by
  obtain ⟨d, q⟩ := cc_is V rs h hn true
  rcases q with ⟨-, q2, q3⟩ | ⟨q, -⟩ | ⟨q, -⟩
  · rw [q2] at d
    refine ⟨d, ?_⟩
    rw [q3, goS_is, List.foldl_reverse, ← fo_rev]
  · cases q
  · cases q
