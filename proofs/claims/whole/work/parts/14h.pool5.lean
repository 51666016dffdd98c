-- ===== the class's cells as made, as the pool =====
theorem va_D_map {A : Nat → Prop} {ws ws' : va_W} (h : va_D A ws) (hp : (ws.map Prod.fst).Perm (ws'.map Prod.fst)) : va_D A ws' := by
  rw [va_D_nd] at h ⊢
  refine ⟨hp.nodup_iff.mp h.1, fun x hx => ?_⟩
  have hm : x.1 ∈ ws'.map Prod.fst := List.mem_map_of_mem hx
  rw [← hp.mem_iff] at hm
  obtain ⟨y, hy, e⟩ := List.mem_map.mp hm
  rw [← e]
  exact h.2 y hy
theorem va_at_q {D : va_G} {cl : List vw_C} {a n : Nat} {cA : ClassId} {f g : Nat → Option Nat} {H : Heap} (h : va_at D cl (a, .inl (cA, n, .inr (.inr (.inr (.inr f))))) H) (e : ∀ i, i < n → f i = g i) : va_at D cl (a, .inl (cA, n, .inr (.inr (.inr (.inr g))))) H := by
  have h : H[a]? = some (vp_cell cA (n, .inr (.inr (.inr (.inr f))))) := h
  show H[a]? = some (vp_cell cA (n, .inr (.inr (.inr (.inr g)))))
  rw [h, vp_cell_q, vp_cell_q]
  have q : (fun j : Fin n => va_rf (f j.val)) = (fun j : Fin n => va_rf (g j.val)) := funext fun j => by rw [e j.1 j.2]
  unfold arrV
  rw [q]
theorem aaF_lt {r : Nat → Nat} : ∀ i, i < 6 → aaF r i = some (r i) := fun i h => by
  rcases (show i = 0 ∨ i = 1 ∨ i = 2 ∨ i = 3 ∨ i = 4 ∨ i = 5 by omega) with rfl | rfl | rfl | rfl | rfl | rfl <;> rfl
def I5 : List Nat := [0, 1, 2, 3, 4, 5, 6, 7, 8, 9, 10, 11, 12, 13, 14, 15, 16, 17, 18, 19, 20, 21, 22, 23, 24, 25, 26, 27, 28, 29, 30, 31, 32, 33, 91, 92, 93, 94, 95, 34, 35, 36, 37, 38, 39, 40, 41, 42, 43, 44, 45, 46, 47, 48, 49, 50, 51, 52, 53, 54, 55, 56, 57, 58, 59, 60, 61, 62, 63, 64, 65, 66, 67, 68, 69, 70, 71, 72, 73, 74, 75, 76, 77, 78, 79, 80, 81, 82, 83, 84, 85, 86, 87, 88, 89, 90]
theorem I5_perm : I5.Perm (List.range 96) := by decide +kernel
set_option maxRecDepth 100000 in
theorem w5_D {A : Nat → Prop} {cy : Nat → ClassId} {ad : Nat → Nat} {X : va_W} (h : va_D A (WX5 cy (ad 0) ad ++ X)) (σ : St) : va_D A (qw ceC 96 ad cy σ ++ X) := by
  refine va_D_map h ?_
  rw [List.map_append, List.map_append]
  refine List.Perm.append_right _ ?_
  have e : (qw ceC 96 ad cy σ).map Prod.fst = (List.range 96).map ad := by
    unfold qw
    rw [List.map_map]
    rfl
  rw [e]
  have e2 : (WX5 cy (ad 0) ad).map Prod.fst = I5.map ad := rfl
  rw [e2]
  exact I5_perm.map ad
