-- ===== the class's cells as made, as the pool =====
theorem va_D_map {A : Nat → Prop} {ws ws' : va_W} (h : va_D A ws) (hp : (ws.map Prod.fst).Perm (ws'.map Prod.fst)) : va_D A ws' := by
  rw [va_D_nd] at h ⊢
  refine ⟨hp.nodup_iff.mp h.1, fun x hx => ?_⟩
  have hm : x.1 ∈ ws'.map Prod.fst := List.mem_map_of_mem hx
  rw [← hp.mem_iff] at hm
  obtain ⟨y, hy, e⟩ := List.mem_map.mp hm
  rw [← e]
  exact h.2 y hy
theorem va_at_q {D : va_G} {cl : List vw_C} {a n : Nat} {cA : ClassId} {f g : Nat → Option Nat} {H : Heap} (h : va_at D cl (a, .inl (cA, n, .inr (.inr (.inr (.inr f))))) H) (e : ∀ i, i < n → f i = g i) : va_at D cl (a, .inl (cA, n, .inr (.inr (.inr (.inr g))))) H := by
  have h : H[a]? = some (vp_cell cA (n, .inr (.inr (.inr (.inr f))))) := h
  show H[a]? = some (vp_cell cA (n, .inr (.inr (.inr (.inr g)))))
  rw [h, vp_cell_q, vp_cell_q]
  have q : (fun j : Fin n => va_rf (f j.val)) = (fun j : Fin n => va_rf (g j.val)) := funext fun j => by rw [e j.1 j.2]
  unfold arrV
  rw [q]
theorem aaF_lt {r : Nat → Nat} : ∀ i, i < 6 → aaF r i = some (r i) := fun i h => by
  rcases (show i = 0 ∨ i = 1 ∨ i = 2 ∨ i = 3 ∨ i = 4 ∨ i = 5 by omega) with rfl | rfl | rfl | rfl | rfl | rfl <;> rfl
def I5 : List Nat := [0, 1, 2, 3, 4, 5, 6, 7, 8, 9, 10, 11, 12, 13, 14, 15, 16, 17, 18, 19, 20, 21, 22, 23, 24, 25, 26, 27, 28, 29, 30, 31, 32, 33, 91, 92, 93, 94, 95, 34, 35, 36, 37, 38, 39, 40, 41, 42, 43, 44, 45, 46, 47, 48, 49, 50, 51, 52, 53, 54, 55, 56, 57, 58, 59, 60, 61, 62, 63, 64, 65, 66, 67, 68, 69, 70, 71, 72, 73, 74, 75, 76, 77, 78, 79, 80, 81, 82, 83, 84, 85, 86, 87, 88, 89, 90]
theorem I5_perm : I5.Perm (List.range 96) := by decide +kernel
set_option maxRecDepth 100000 in
theorem w5_D {A : Nat → Prop} {cy : Nat → ClassId} {ad : Nat → Nat} {X : va_W} (h : va_D A (WX5 cy (ad 0) ad ++ X)) (σ : St) : va_D A (qw ceC 96 ad cy σ ++ X) := by
  refine va_D_map h ?_
  rw [List.map_append, List.map_append]
  refine List.Perm.append_right _ ?_
  have e : (qw ceC 96 ad cy σ).map Prod.fst = (List.range 96).map ad := by
    unfold qw
    rw [List.map_map]
    rfl
  rw [e]
  have e2 : (WX5 cy (ad 0) ad).map Prod.fst = I5.map ad := rfl
  rw [e2]
  exact I5_perm.map ad
set_option maxRecDepth 100000 in
theorem w5_flat (cy : Nat → ClassId) (ad : Nat → Nat) : WX5 cy (ad 0) ad = [(ad 0, .inr (5, [.ref (ad 1), .int 0, .int (-1), .ref (ad 2), .ref (ad 21), .ref (ad 33), .ref (ad 91), .ref (ad 34), .ref (ad 36), .ref (ad 60)])), (ad 1, .inl (cy 0, 2000, .inl (fun _ => 0))), (ad 2, .inr (4, [.ref (ad 3), .ref (ad 4), .ref (ad 5), .ref (ad 6), .ref (ad 13), .ref (ad 14), .int 0, .int 0])), (ad 3, .inl (cy 1, 14, .inl (fun _ => 0))), (ad 4, .inl (cy 1, 6, .inl (fun _ => 0))), (ad 5, .inl (cy 1, 6, .inl (fun _ => 0))), (ad 6, .inl (cy 5, 6, .inr (.inr (.inr (.inr (aaF (fun i => ad (2 + (5 + i))))))))), (ad 7, .inl (cy 0, 60, .inl (fun _ => 0))), (ad 8, .inl (cy 0, 60, .inl (fun _ => 0))), (ad 9, .inl (cy 0, 60, .inl (fun _ => 0))), (ad 10, .inl (cy 0, 60, .inl (fun _ => 0))), (ad 11, .inl (cy 0, 60, .inl (fun _ => 0))), (ad 12, .inl (cy 0, 60, .inl (fun _ => 0))), (ad 13, .inl (cy 1, 6, .inl (fun _ => 0))), (ad 14, .inl (cy 6, 6, .inr (.inr (.inr (.inr (aaF (fun i => ad (2 + (13 + i))))))))), (ad 15, .inl (cy 1, 6, .inl (upd (upd (upd (upd (upd (upd (fun _ => 0) 0 0) 1 1000000) 2 1000000) 3 1000000) 4 1000000) 5 1000000))), (ad 16, .inl (cy 1, 6, .inl (upd (upd (upd (upd (upd (upd (fun _ => 0) 0 1000000) 1 0) 2 1000000) 3 1000000) 4 1000000) 5 1000000))), (ad 17, .inl (cy 1, 6, .inl (upd (upd (upd (upd (upd (upd (fun _ => 0) 0 1000000) 1 1000000) 2 0) 3 1000000) 4 1000000) 5 1000000))), (ad 18, .inl (cy 1, 6, .inl (upd (upd (upd (upd (upd (upd (fun _ => 0) 0 1000000) 1 1000000) 2 1000000) 3 0) 4 1000000) 5 1000000))), (ad 19, .inl (cy 1, 6, .inl (upd (upd (upd (upd (upd (upd (fun _ => 0) 0 1000000) 1 1000000) 2 1000000) 3 1000000) 4 0) 5 1000000))), (ad 20, .inl (cy 1, 6, .inl (upd (upd (upd (upd (upd (upd (fun _ => 0) 0 1000000) 1 1000000) 2 1000000) 3 1000000) 4 1000000) 5 0))), (ad 21, .inr (0, [.ref (ad 2), .ref (ad 22), .ref (ad 23), .ref (ad 30), .ref (ad 31), .ref (ad 32), .int 0, .int 0, .int (-1)])), (ad 22, .inl (cy 1, 300, .inl (fun _ => 0))), (ad 23, .inl (cy 6, 6, .inr (.inr (.inr (.inr (aaF (fun i => ad (21 + (3 + i))))))))), (ad 24, .inl (cy 1, 400, .inl (fun _ => 0))), (ad 25, .inl (cy 1, 400, .inl (fun _ => 0))), (ad 26, .inl (cy 1, 400, .inl (fun _ => 0))), (ad 27, .inl (cy 1, 400, .inl (fun _ => 0))), (ad 28, .inl (cy 1, 400, .inl (fun _ => 0))), (ad 29, .inl (cy 1, 400, .inl (fun _ => 0))), (ad 30, .inl (cy 1, 12, .inl (fun _ => 0))), (ad 31, .inl (cy 1, 300, .inl (fun _ => 0))), (ad 32, .inl (cy 1, 300, .inl (fun _ => 0))), (ad 33, .inl (cy 4, 6, .inr (.inr (.inr (.inr (va_up (va_up (va_up (va_up (va_up (va_up (fun _ => none) 0 (some (ad 61))) 1 (some (ad 66))) 2 (some (ad 71))) 3 (some (ad 76))) 4 (some (ad 81))) 5 (some (ad 86)))))))), (ad 91, .inr (3, [.ref (ad 92), .ref (ad 93), .ref (ad 94), .ref (ad 95), .int 0, .int 0])), (ad 92, .inl (cy 1, 12, .inl (fun _ => 0))), (ad 93, .inl (cy 1, 12, .inl (fun _ => 0))), (ad 94, .inl (cy 1, 400, .inl (fun _ => 0))), (ad 95, .inl (cy 1, 32, .inl (fun _ => 0))), (ad 34, .inr (2, [.ref (ad 35), .int 0, .ref (ad 1), .int 0, .int 0, .int 25, .int 0, .int 0, .int 0, .int 0])), (ad 35, .inl (cy 1, 32, .inl (fun _ => 0))), (ad 36, .inr (1, [.ref (ad 2), .ref (ad 21), .ref (ad 33), .ref (ad 37), .ref (ad 44), .ref (ad 51), .ref (ad 58), .ref (ad 59), .int 0, .int (-1)])), (ad 37, .inl (cy 6, 6, .inr (.inr (.inr (.inr (aaF (fun i => ad (36 + (2 + i))))))))), (ad 38, .inl (cy 1, 15, .inl (fun _ => 0))), (ad 39, .inl (cy 1, 15, .inl (fun _ => 0))), (ad 40, .inl (cy 1, 15, .inl (fun _ => 0))), (ad 41, .inl (cy 1, 15, .inl (fun _ => 0))), (ad 42, .inl (cy 1, 15, .inl (fun _ => 0))), (ad 43, .inl (cy 1, 15, .inl (fun _ => 0))), (ad 44, .inl (cy 6, 6, .inr (.inr (.inr (.inr (aaF (fun i => ad (36 + (9 + i))))))))), (ad 45, .inl (cy 1, 15, .inl (fun _ => 0))), (ad 46, .inl (cy 1, 15, .inl (fun _ => 0))), (ad 47, .inl (cy 1, 15, .inl (fun _ => 0))), (ad 48, .inl (cy 1, 15, .inl (fun _ => 0))), (ad 49, .inl (cy 1, 15, .inl (fun _ => 0))), (ad 50, .inl (cy 1, 15, .inl (fun _ => 0))), (ad 51, .inl (cy 6, 6, .inr (.inr (.inr (.inr (aaF (fun i => ad (36 + (16 + i))))))))), (ad 52, .inl (cy 1, 15, .inl (fun _ => 0))), (ad 53, .inl (cy 1, 15, .inl (fun _ => 0))), (ad 54, .inl (cy 1, 15, .inl (fun _ => 0))), (ad 55, .inl (cy 1, 15, .inl (fun _ => 0))), (ad 56, .inl (cy 1, 15, .inl (fun _ => 0))), (ad 57, .inl (cy 1, 15, .inl (fun _ => 0))), (ad 58, .inl (cy 1, 6, .inl (fun _ => 0))), (ad 59, .inl (cy 1, 14, .inl (fun _ => 0))), (ad 60, .inl (cy 1, 15, .inl (fun _ => 0))), (ad 61, .inr (3, [.ref (ad 62), .ref (ad 63), .ref (ad 64), .ref (ad 65), .int 0, .int 0])), (ad 62, .inl (cy 1, 12, .inl (fun _ => 0))), (ad 63, .inl (cy 1, 12, .inl (fun _ => 0))), (ad 64, .inl (cy 1, 400, .inl (fun _ => 0))), (ad 65, .inl (cy 1, 32, .inl (fun _ => 0))), (ad 66, .inr (3, [.ref (ad 67), .ref (ad 68), .ref (ad 69), .ref (ad 70), .int 0, .int 0])), (ad 67, .inl (cy 1, 12, .inl (fun _ => 0))), (ad 68, .inl (cy 1, 12, .inl (fun _ => 0))), (ad 69, .inl (cy 1, 400, .inl (fun _ => 0))), (ad 70, .inl (cy 1, 32, .inl (fun _ => 0))), (ad 71, .inr (3, [.ref (ad 72), .ref (ad 73), .ref (ad 74), .ref (ad 75), .int 0, .int 0])), (ad 72, .inl (cy 1, 12, .inl (fun _ => 0))), (ad 73, .inl (cy 1, 12, .inl (fun _ => 0))), (ad 74, .inl (cy 1, 400, .inl (fun _ => 0))), (ad 75, .inl (cy 1, 32, .inl (fun _ => 0))), (ad 76, .inr (3, [.ref (ad 77), .ref (ad 78), .ref (ad 79), .ref (ad 80), .int 0, .int 0])), (ad 77, .inl (cy 1, 12, .inl (fun _ => 0))), (ad 78, .inl (cy 1, 12, .inl (fun _ => 0))), (ad 79, .inl (cy 1, 400, .inl (fun _ => 0))), (ad 80, .inl (cy 1, 32, .inl (fun _ => 0))), (ad 81, .inr (3, [.ref (ad 82), .ref (ad 83), .ref (ad 84), .ref (ad 85), .int 0, .int 0])), (ad 82, .inl (cy 1, 12, .inl (fun _ => 0))), (ad 83, .inl (cy 1, 12, .inl (fun _ => 0))), (ad 84, .inl (cy 1, 400, .inl (fun _ => 0))), (ad 85, .inl (cy 1, 32, .inl (fun _ => 0))), (ad 86, .inr (3, [.ref (ad 87), .ref (ad 88), .ref (ad 89), .ref (ad 90), .int 0, .int 0])), (ad 87, .inl (cy 1, 12, .inl (fun _ => 0))), (ad 88, .inl (cy 1, 12, .inl (fun _ => 0))), (ad 89, .inl (cy 1, 400, .inl (fun _ => 0))), (ad 90, .inl (cy 1, 32, .inl (fun _ => 0)))] := rfl
theorem w5_c0 (cy : Nat → ClassId) (ad : Nat → Nat) : ceC ad cy σ5.2.2 0 (σ5.1 0) (σ5.2.1 0) = .inr (5, [.ref (ad 1), .int 0, .int (-1), .ref (ad 2), .ref (ad 21), .ref (ad 33), .ref (ad 91), .ref (ad 34), .ref (ad 36), .ref (ad 60)]) := rfl
theorem w5_c1 (cy : Nat → ClassId) (ad : Nat → Nat) : ceC ad cy σ5.2.2 1 (σ5.1 1) (σ5.2.1 1) = .inl (cy 0, 2000, .inl (fun _ => 0)) := by rw [ceC_1, σ5z (by omega)]
theorem w5_c2 (cy : Nat → ClassId) (ad : Nat → Nat) : ceC ad cy σ5.2.2 2 (σ5.1 2) (σ5.2.1 2) = .inr (4, [.ref (ad 3), .ref (ad 4), .ref (ad 5), .ref (ad 6), .ref (ad 13), .ref (ad 14), .int 0, .int 0]) := by rw [ceC_2, σ5z (by omega)]
theorem w5_c3 (cy : Nat → ClassId) (ad : Nat → Nat) : ceC ad cy σ5.2.2 3 (σ5.1 3) (σ5.2.1 3) = .inl (cy 1, 14, .inl (fun _ => 0)) := by rw [ceC_3, σ5z (by omega)]
theorem w5_c4 (cy : Nat → ClassId) (ad : Nat → Nat) : ceC ad cy σ5.2.2 4 (σ5.1 4) (σ5.2.1 4) = .inl (cy 1, 6, .inl (fun _ => 0)) := by rw [ceC_4, σ5z (by omega)]
theorem w5_c5 (cy : Nat → ClassId) (ad : Nat → Nat) : ceC ad cy σ5.2.2 5 (σ5.1 5) (σ5.2.1 5) = .inl (cy 1, 6, .inl (fun _ => 0)) := by rw [ceC_5, σ5z (by omega)]
theorem w5_c7 (cy : Nat → ClassId) (ad : Nat → Nat) : ceC ad cy σ5.2.2 7 (σ5.1 7) (σ5.2.1 7) = .inl (cy 0, 60, .inl (fun _ => 0)) := by rw [ceC_7, σ5z (by omega)]
theorem w5_c8 (cy : Nat → ClassId) (ad : Nat → Nat) : ceC ad cy σ5.2.2 8 (σ5.1 8) (σ5.2.1 8) = .inl (cy 0, 60, .inl (fun _ => 0)) := by rw [ceC_8, σ5z (by omega)]
theorem w5_c9 (cy : Nat → ClassId) (ad : Nat → Nat) : ceC ad cy σ5.2.2 9 (σ5.1 9) (σ5.2.1 9) = .inl (cy 0, 60, .inl (fun _ => 0)) := by rw [ceC_9, σ5z (by omega)]
theorem w5_c10 (cy : Nat → ClassId) (ad : Nat → Nat) : ceC ad cy σ5.2.2 10 (σ5.1 10) (σ5.2.1 10) = .inl (cy 0, 60, .inl (fun _ => 0)) := by rw [ceC_10, σ5z (by omega)]
theorem w5_c11 (cy : Nat → ClassId) (ad : Nat → Nat) : ceC ad cy σ5.2.2 11 (σ5.1 11) (σ5.2.1 11) = .inl (cy 0, 60, .inl (fun _ => 0)) := by rw [ceC_11, σ5z (by omega)]
theorem w5_c12 (cy : Nat → ClassId) (ad : Nat → Nat) : ceC ad cy σ5.2.2 12 (σ5.1 12) (σ5.2.1 12) = .inl (cy 0, 60, .inl (fun _ => 0)) := by rw [ceC_12, σ5z (by omega)]
theorem w5_c13 (cy : Nat → ClassId) (ad : Nat → Nat) : ceC ad cy σ5.2.2 13 (σ5.1 13) (σ5.2.1 13) = .inl (cy 1, 6, .inl (fun _ => 0)) := by rw [ceC_13, σ5z (by omega)]
theorem w5_c15 (cy : Nat → ClassId) (ad : Nat → Nat) : ceC ad cy σ5.2.2 15 (σ5.1 15) (σ5.2.1 15) = .inl (cy 1, 6, .inl (upd (upd (upd (upd (upd (upd (fun _ => 0) 0 0) 1 1000000) 2 1000000) 3 1000000) 4 1000000) 5 1000000)) := rfl
theorem w5_c16 (cy : Nat → ClassId) (ad : Nat → Nat) : ceC ad cy σ5.2.2 16 (σ5.1 16) (σ5.2.1 16) = .inl (cy 1, 6, .inl (upd (upd (upd (upd (upd (upd (fun _ => 0) 0 1000000) 1 0) 2 1000000) 3 1000000) 4 1000000) 5 1000000)) := rfl
theorem w5_c17 (cy : Nat → ClassId) (ad : Nat → Nat) : ceC ad cy σ5.2.2 17 (σ5.1 17) (σ5.2.1 17) = .inl (cy 1, 6, .inl (upd (upd (upd (upd (upd (upd (fun _ => 0) 0 1000000) 1 1000000) 2 0) 3 1000000) 4 1000000) 5 1000000)) := rfl
theorem w5_c18 (cy : Nat → ClassId) (ad : Nat → Nat) : ceC ad cy σ5.2.2 18 (σ5.1 18) (σ5.2.1 18) = .inl (cy 1, 6, .inl (upd (upd (upd (upd (upd (upd (fun _ => 0) 0 1000000) 1 1000000) 2 1000000) 3 0) 4 1000000) 5 1000000)) := rfl
theorem w5_c19 (cy : Nat → ClassId) (ad : Nat → Nat) : ceC ad cy σ5.2.2 19 (σ5.1 19) (σ5.2.1 19) = .inl (cy 1, 6, .inl (upd (upd (upd (upd (upd (upd (fun _ => 0) 0 1000000) 1 1000000) 2 1000000) 3 1000000) 4 0) 5 1000000)) := rfl
theorem w5_c20 (cy : Nat → ClassId) (ad : Nat → Nat) : ceC ad cy σ5.2.2 20 (σ5.1 20) (σ5.2.1 20) = .inl (cy 1, 6, .inl (upd (upd (upd (upd (upd (upd (fun _ => 0) 0 1000000) 1 1000000) 2 1000000) 3 1000000) 4 1000000) 5 0)) := rfl
theorem w5_c21 (cy : Nat → ClassId) (ad : Nat → Nat) : ceC ad cy σ5.2.2 21 (σ5.1 21) (σ5.2.1 21) = .inr (0, [.ref (ad 2), .ref (ad 22), .ref (ad 23), .ref (ad 30), .ref (ad 31), .ref (ad 32), .int 0, .int 0, .int (-1)]) := rfl
theorem w5_c22 (cy : Nat → ClassId) (ad : Nat → Nat) : ceC ad cy σ5.2.2 22 (σ5.1 22) (σ5.2.1 22) = .inl (cy 1, 300, .inl (fun _ => 0)) := by rw [ceC_22, σ5z (by omega)]
theorem w5_c24 (cy : Nat → ClassId) (ad : Nat → Nat) : ceC ad cy σ5.2.2 24 (σ5.1 24) (σ5.2.1 24) = .inl (cy 1, 400, .inl (fun _ => 0)) := by rw [ceC_24, σ5z (by omega)]
theorem w5_c25 (cy : Nat → ClassId) (ad : Nat → Nat) : ceC ad cy σ5.2.2 25 (σ5.1 25) (σ5.2.1 25) = .inl (cy 1, 400, .inl (fun _ => 0)) := by rw [ceC_25, σ5z (by omega)]
theorem w5_c26 (cy : Nat → ClassId) (ad : Nat → Nat) : ceC ad cy σ5.2.2 26 (σ5.1 26) (σ5.2.1 26) = .inl (cy 1, 400, .inl (fun _ => 0)) := by rw [ceC_26, σ5z (by omega)]
theorem w5_c27 (cy : Nat → ClassId) (ad : Nat → Nat) : ceC ad cy σ5.2.2 27 (σ5.1 27) (σ5.2.1 27) = .inl (cy 1, 400, .inl (fun _ => 0)) := by rw [ceC_27, σ5z (by omega)]
theorem w5_c28 (cy : Nat → ClassId) (ad : Nat → Nat) : ceC ad cy σ5.2.2 28 (σ5.1 28) (σ5.2.1 28) = .inl (cy 1, 400, .inl (fun _ => 0)) := by rw [ceC_28, σ5z (by omega)]
theorem w5_c29 (cy : Nat → ClassId) (ad : Nat → Nat) : ceC ad cy σ5.2.2 29 (σ5.1 29) (σ5.2.1 29) = .inl (cy 1, 400, .inl (fun _ => 0)) := by rw [ceC_29, σ5z (by omega)]
theorem w5_c30 (cy : Nat → ClassId) (ad : Nat → Nat) : ceC ad cy σ5.2.2 30 (σ5.1 30) (σ5.2.1 30) = .inl (cy 1, 12, .inl (fun _ => 0)) := by rw [ceC_30, σ5z (by omega)]
theorem w5_c31 (cy : Nat → ClassId) (ad : Nat → Nat) : ceC ad cy σ5.2.2 31 (σ5.1 31) (σ5.2.1 31) = .inl (cy 1, 300, .inl (fun _ => 0)) := by rw [ceC_31, σ5z (by omega)]
theorem w5_c32 (cy : Nat → ClassId) (ad : Nat → Nat) : ceC ad cy σ5.2.2 32 (σ5.1 32) (σ5.2.1 32) = .inl (cy 1, 300, .inl (fun _ => 0)) := by rw [ceC_32, σ5z (by omega)]
theorem w5_c34 (cy : Nat → ClassId) (ad : Nat → Nat) : ceC ad cy σ5.2.2 34 (σ5.1 34) (σ5.2.1 34) = .inr (2, [.ref (ad 35), .int 0, .ref (ad 1), .int 0, .int 0, .int 25, .int 0, .int 0, .int 0, .int 0]) := rfl
theorem w5_c35 (cy : Nat → ClassId) (ad : Nat → Nat) : ceC ad cy σ5.2.2 35 (σ5.1 35) (σ5.2.1 35) = .inl (cy 1, 32, .inl (fun _ => 0)) := rfl
theorem w5_c36 (cy : Nat → ClassId) (ad : Nat → Nat) : ceC ad cy σ5.2.2 36 (σ5.1 36) (σ5.2.1 36) = .inr (1, [.ref (ad 2), .ref (ad 21), .ref (ad 33), .ref (ad 37), .ref (ad 44), .ref (ad 51), .ref (ad 58), .ref (ad 59), .int 0, .int (-1)]) := rfl
theorem w5_c38 (cy : Nat → ClassId) (ad : Nat → Nat) : ceC ad cy σ5.2.2 38 (σ5.1 38) (σ5.2.1 38) = .inl (cy 1, 15, .inl (fun _ => 0)) := by rw [ceC_38, σ5z (by omega)]
theorem w5_c39 (cy : Nat → ClassId) (ad : Nat → Nat) : ceC ad cy σ5.2.2 39 (σ5.1 39) (σ5.2.1 39) = .inl (cy 1, 15, .inl (fun _ => 0)) := by rw [ceC_39, σ5z (by omega)]
theorem w5_c40 (cy : Nat → ClassId) (ad : Nat → Nat) : ceC ad cy σ5.2.2 40 (σ5.1 40) (σ5.2.1 40) = .inl (cy 1, 15, .inl (fun _ => 0)) := by rw [ceC_40, σ5z (by omega)]
theorem w5_c41 (cy : Nat → ClassId) (ad : Nat → Nat) : ceC ad cy σ5.2.2 41 (σ5.1 41) (σ5.2.1 41) = .inl (cy 1, 15, .inl (fun _ => 0)) := by rw [ceC_41, σ5z (by omega)]
theorem w5_c42 (cy : Nat → ClassId) (ad : Nat → Nat) : ceC ad cy σ5.2.2 42 (σ5.1 42) (σ5.2.1 42) = .inl (cy 1, 15, .inl (fun _ => 0)) := by rw [ceC_42, σ5z (by omega)]
theorem w5_c43 (cy : Nat → ClassId) (ad : Nat → Nat) : ceC ad cy σ5.2.2 43 (σ5.1 43) (σ5.2.1 43) = .inl (cy 1, 15, .inl (fun _ => 0)) := by rw [ceC_43, σ5z (by omega)]
theorem w5_c45 (cy : Nat → ClassId) (ad : Nat → Nat) : ceC ad cy σ5.2.2 45 (σ5.1 45) (σ5.2.1 45) = .inl (cy 1, 15, .inl (fun _ => 0)) := by rw [ceC_45, σ5z (by omega)]
theorem w5_c46 (cy : Nat → ClassId) (ad : Nat → Nat) : ceC ad cy σ5.2.2 46 (σ5.1 46) (σ5.2.1 46) = .inl (cy 1, 15, .inl (fun _ => 0)) := by rw [ceC_46, σ5z (by omega)]
theorem w5_c47 (cy : Nat → ClassId) (ad : Nat → Nat) : ceC ad cy σ5.2.2 47 (σ5.1 47) (σ5.2.1 47) = .inl (cy 1, 15, .inl (fun _ => 0)) := by rw [ceC_47, σ5z (by omega)]
theorem w5_c48 (cy : Nat → ClassId) (ad : Nat → Nat) : ceC ad cy σ5.2.2 48 (σ5.1 48) (σ5.2.1 48) = .inl (cy 1, 15, .inl (fun _ => 0)) := by rw [ceC_48, σ5z (by omega)]
theorem w5_c49 (cy : Nat → ClassId) (ad : Nat → Nat) : ceC ad cy σ5.2.2 49 (σ5.1 49) (σ5.2.1 49) = .inl (cy 1, 15, .inl (fun _ => 0)) := by rw [ceC_49, σ5z (by omega)]
theorem w5_c50 (cy : Nat → ClassId) (ad : Nat → Nat) : ceC ad cy σ5.2.2 50 (σ5.1 50) (σ5.2.1 50) = .inl (cy 1, 15, .inl (fun _ => 0)) := by rw [ceC_50, σ5z (by omega)]
theorem w5_c52 (cy : Nat → ClassId) (ad : Nat → Nat) : ceC ad cy σ5.2.2 52 (σ5.1 52) (σ5.2.1 52) = .inl (cy 1, 15, .inl (fun _ => 0)) := by rw [ceC_52, σ5z (by omega)]
theorem w5_c53 (cy : Nat → ClassId) (ad : Nat → Nat) : ceC ad cy σ5.2.2 53 (σ5.1 53) (σ5.2.1 53) = .inl (cy 1, 15, .inl (fun _ => 0)) := by rw [ceC_53, σ5z (by omega)]
theorem w5_c54 (cy : Nat → ClassId) (ad : Nat → Nat) : ceC ad cy σ5.2.2 54 (σ5.1 54) (σ5.2.1 54) = .inl (cy 1, 15, .inl (fun _ => 0)) := by rw [ceC_54, σ5z (by omega)]
theorem w5_c55 (cy : Nat → ClassId) (ad : Nat → Nat) : ceC ad cy σ5.2.2 55 (σ5.1 55) (σ5.2.1 55) = .inl (cy 1, 15, .inl (fun _ => 0)) := by rw [ceC_55, σ5z (by omega)]
theorem w5_c56 (cy : Nat → ClassId) (ad : Nat → Nat) : ceC ad cy σ5.2.2 56 (σ5.1 56) (σ5.2.1 56) = .inl (cy 1, 15, .inl (fun _ => 0)) := by rw [ceC_56, σ5z (by omega)]
theorem w5_c57 (cy : Nat → ClassId) (ad : Nat → Nat) : ceC ad cy σ5.2.2 57 (σ5.1 57) (σ5.2.1 57) = .inl (cy 1, 15, .inl (fun _ => 0)) := by rw [ceC_57, σ5z (by omega)]
theorem w5_c58 (cy : Nat → ClassId) (ad : Nat → Nat) : ceC ad cy σ5.2.2 58 (σ5.1 58) (σ5.2.1 58) = .inl (cy 1, 6, .inl (fun _ => 0)) := by rw [ceC_58, σ5z (by omega)]
theorem w5_c59 (cy : Nat → ClassId) (ad : Nat → Nat) : ceC ad cy σ5.2.2 59 (σ5.1 59) (σ5.2.1 59) = .inl (cy 1, 14, .inl (fun _ => 0)) := by rw [ceC_59, σ5z (by omega)]
theorem w5_c60 (cy : Nat → ClassId) (ad : Nat → Nat) : ceC ad cy σ5.2.2 60 (σ5.1 60) (σ5.2.1 60) = .inl (cy 1, 15, .inl (fun _ => 0)) := rfl
theorem w5_c61 (cy : Nat → ClassId) (ad : Nat → Nat) : ceC ad cy σ5.2.2 61 (σ5.1 61) (σ5.2.1 61) = .inr (3, [.ref (ad 62), .ref (ad 63), .ref (ad 64), .ref (ad 65), .int 0, .int 0]) := rfl
theorem w5_c62 (cy : Nat → ClassId) (ad : Nat → Nat) : ceC ad cy σ5.2.2 62 (σ5.1 62) (σ5.2.1 62) = .inl (cy 1, 12, .inl (fun _ => 0)) := rfl
theorem w5_c63 (cy : Nat → ClassId) (ad : Nat → Nat) : ceC ad cy σ5.2.2 63 (σ5.1 63) (σ5.2.1 63) = .inl (cy 1, 12, .inl (fun _ => 0)) := rfl
theorem w5_c64 (cy : Nat → ClassId) (ad : Nat → Nat) : ceC ad cy σ5.2.2 64 (σ5.1 64) (σ5.2.1 64) = .inl (cy 1, 400, .inl (fun _ => 0)) := rfl
theorem w5_c65 (cy : Nat → ClassId) (ad : Nat → Nat) : ceC ad cy σ5.2.2 65 (σ5.1 65) (σ5.2.1 65) = .inl (cy 1, 32, .inl (fun _ => 0)) := rfl
theorem w5_c66 (cy : Nat → ClassId) (ad : Nat → Nat) : ceC ad cy σ5.2.2 66 (σ5.1 66) (σ5.2.1 66) = .inr (3, [.ref (ad 67), .ref (ad 68), .ref (ad 69), .ref (ad 70), .int 0, .int 0]) := rfl
theorem w5_c67 (cy : Nat → ClassId) (ad : Nat → Nat) : ceC ad cy σ5.2.2 67 (σ5.1 67) (σ5.2.1 67) = .inl (cy 1, 12, .inl (fun _ => 0)) := rfl
theorem w5_c68 (cy : Nat → ClassId) (ad : Nat → Nat) : ceC ad cy σ5.2.2 68 (σ5.1 68) (σ5.2.1 68) = .inl (cy 1, 12, .inl (fun _ => 0)) := rfl
theorem w5_c69 (cy : Nat → ClassId) (ad : Nat → Nat) : ceC ad cy σ5.2.2 69 (σ5.1 69) (σ5.2.1 69) = .inl (cy 1, 400, .inl (fun _ => 0)) := rfl
theorem w5_c70 (cy : Nat → ClassId) (ad : Nat → Nat) : ceC ad cy σ5.2.2 70 (σ5.1 70) (σ5.2.1 70) = .inl (cy 1, 32, .inl (fun _ => 0)) := rfl
theorem w5_c71 (cy : Nat → ClassId) (ad : Nat → Nat) : ceC ad cy σ5.2.2 71 (σ5.1 71) (σ5.2.1 71) = .inr (3, [.ref (ad 72), .ref (ad 73), .ref (ad 74), .ref (ad 75), .int 0, .int 0]) := rfl
theorem w5_c72 (cy : Nat → ClassId) (ad : Nat → Nat) : ceC ad cy σ5.2.2 72 (σ5.1 72) (σ5.2.1 72) = .inl (cy 1, 12, .inl (fun _ => 0)) := rfl
theorem w5_c73 (cy : Nat → ClassId) (ad : Nat → Nat) : ceC ad cy σ5.2.2 73 (σ5.1 73) (σ5.2.1 73) = .inl (cy 1, 12, .inl (fun _ => 0)) := rfl
theorem w5_c74 (cy : Nat → ClassId) (ad : Nat → Nat) : ceC ad cy σ5.2.2 74 (σ5.1 74) (σ5.2.1 74) = .inl (cy 1, 400, .inl (fun _ => 0)) := rfl
theorem w5_c75 (cy : Nat → ClassId) (ad : Nat → Nat) : ceC ad cy σ5.2.2 75 (σ5.1 75) (σ5.2.1 75) = .inl (cy 1, 32, .inl (fun _ => 0)) := rfl
theorem w5_c76 (cy : Nat → ClassId) (ad : Nat → Nat) : ceC ad cy σ5.2.2 76 (σ5.1 76) (σ5.2.1 76) = .inr (3, [.ref (ad 77), .ref (ad 78), .ref (ad 79), .ref (ad 80), .int 0, .int 0]) := rfl
theorem w5_c77 (cy : Nat → ClassId) (ad : Nat → Nat) : ceC ad cy σ5.2.2 77 (σ5.1 77) (σ5.2.1 77) = .inl (cy 1, 12, .inl (fun _ => 0)) := rfl
theorem w5_c78 (cy : Nat → ClassId) (ad : Nat → Nat) : ceC ad cy σ5.2.2 78 (σ5.1 78) (σ5.2.1 78) = .inl (cy 1, 12, .inl (fun _ => 0)) := rfl
theorem w5_c79 (cy : Nat → ClassId) (ad : Nat → Nat) : ceC ad cy σ5.2.2 79 (σ5.1 79) (σ5.2.1 79) = .inl (cy 1, 400, .inl (fun _ => 0)) := rfl
theorem w5_c80 (cy : Nat → ClassId) (ad : Nat → Nat) : ceC ad cy σ5.2.2 80 (σ5.1 80) (σ5.2.1 80) = .inl (cy 1, 32, .inl (fun _ => 0)) := rfl
theorem w5_c81 (cy : Nat → ClassId) (ad : Nat → Nat) : ceC ad cy σ5.2.2 81 (σ5.1 81) (σ5.2.1 81) = .inr (3, [.ref (ad 82), .ref (ad 83), .ref (ad 84), .ref (ad 85), .int 0, .int 0]) := rfl
theorem w5_c82 (cy : Nat → ClassId) (ad : Nat → Nat) : ceC ad cy σ5.2.2 82 (σ5.1 82) (σ5.2.1 82) = .inl (cy 1, 12, .inl (fun _ => 0)) := rfl
theorem w5_c83 (cy : Nat → ClassId) (ad : Nat → Nat) : ceC ad cy σ5.2.2 83 (σ5.1 83) (σ5.2.1 83) = .inl (cy 1, 12, .inl (fun _ => 0)) := rfl
theorem w5_c84 (cy : Nat → ClassId) (ad : Nat → Nat) : ceC ad cy σ5.2.2 84 (σ5.1 84) (σ5.2.1 84) = .inl (cy 1, 400, .inl (fun _ => 0)) := rfl
theorem w5_c85 (cy : Nat → ClassId) (ad : Nat → Nat) : ceC ad cy σ5.2.2 85 (σ5.1 85) (σ5.2.1 85) = .inl (cy 1, 32, .inl (fun _ => 0)) := rfl
theorem w5_c86 (cy : Nat → ClassId) (ad : Nat → Nat) : ceC ad cy σ5.2.2 86 (σ5.1 86) (σ5.2.1 86) = .inr (3, [.ref (ad 87), .ref (ad 88), .ref (ad 89), .ref (ad 90), .int 0, .int 0]) := rfl
theorem w5_c87 (cy : Nat → ClassId) (ad : Nat → Nat) : ceC ad cy σ5.2.2 87 (σ5.1 87) (σ5.2.1 87) = .inl (cy 1, 12, .inl (fun _ => 0)) := rfl
theorem w5_c88 (cy : Nat → ClassId) (ad : Nat → Nat) : ceC ad cy σ5.2.2 88 (σ5.1 88) (σ5.2.1 88) = .inl (cy 1, 12, .inl (fun _ => 0)) := rfl
theorem w5_c89 (cy : Nat → ClassId) (ad : Nat → Nat) : ceC ad cy σ5.2.2 89 (σ5.1 89) (σ5.2.1 89) = .inl (cy 1, 400, .inl (fun _ => 0)) := rfl
theorem w5_c90 (cy : Nat → ClassId) (ad : Nat → Nat) : ceC ad cy σ5.2.2 90 (σ5.1 90) (σ5.2.1 90) = .inl (cy 1, 32, .inl (fun _ => 0)) := rfl
theorem w5_c91 (cy : Nat → ClassId) (ad : Nat → Nat) : ceC ad cy σ5.2.2 91 (σ5.1 91) (σ5.2.1 91) = .inr (3, [.ref (ad 92), .ref (ad 93), .ref (ad 94), .ref (ad 95), .int 0, .int 0]) := rfl
theorem w5_c92 (cy : Nat → ClassId) (ad : Nat → Nat) : ceC ad cy σ5.2.2 92 (σ5.1 92) (σ5.2.1 92) = .inl (cy 1, 12, .inl (fun _ => 0)) := rfl
theorem w5_c93 (cy : Nat → ClassId) (ad : Nat → Nat) : ceC ad cy σ5.2.2 93 (σ5.1 93) (σ5.2.1 93) = .inl (cy 1, 12, .inl (fun _ => 0)) := rfl
theorem w5_c94 (cy : Nat → ClassId) (ad : Nat → Nat) : ceC ad cy σ5.2.2 94 (σ5.1 94) (σ5.2.1 94) = .inl (cy 1, 400, .inl (fun _ => 0)) := rfl
theorem w5_c95 (cy : Nat → ClassId) (ad : Nat → Nat) : ceC ad cy σ5.2.2 95 (σ5.1 95) (σ5.2.1 95) = .inl (cy 1, 32, .inl (fun _ => 0)) := rfl
