-- ===== the class's cells as made, as the pool =====
theorem va_D_map {A : Nat → Prop} {ws ws' : va_W} (h : va_D A ws) (hp : (ws.map Prod.fst).Perm (ws'.map Prod.fst)) : va_D A ws' := by
  rw [va_D_nd] at h ⊢
  refine ⟨hp.nodup_iff.mp h.1, fun x hx => ?_⟩
  have hm : x.1 ∈ ws'.map Prod.fst := List.mem_map_of_mem hx
  rw [← hp.mem_iff] at hm
  obtain ⟨y, hy, e⟩ := List.mem_map.mp hm
  rw [← e]
  exact h.2 y hy
theorem va_at_q {D : va_G} {cl : List vw_C} {a n : Nat} {cA : ClassId} {f g : Nat → Option Nat} {H : Heap} (h : va_at D cl (a, .inl (cA, n, .inr (.inr (.inr (.inr f))))) H) (e : ∀ i, i < n → f i = g i) : va_at D cl (a, .inl (cA, n, .inr (.inr (.inr (.inr g))))) H := by
  have h : H[a]? = some (vp_cell cA (n, .inr (.inr (.inr (.inr f))))) := h
  show H[a]? = some (vp_cell cA (n, .inr (.inr (.inr (.inr g)))))
  rw [h, vp_cell_q, vp_cell_q]
  have q : (fun j : Fin n => va_rf (f j.val)) = (fun j : Fin n => va_rf (g j.val)) := funext fun j => by rw [e j.1 j.2]
  unfold arrV
  rw [q]
theorem aaF_lt {r : Nat → Nat} : ∀ i, i < 6 → aaF r i = some (r i) := fun i h => by
  rcases (show i = 0 ∨ i = 1 ∨ i = 2 ∨ i = 3 ∨ i = 4 ∨ i = 5 by omega) with rfl | rfl | rfl | rfl | rfl | rfl <;> rfl
def I5 : List Nat := [0, 1, 2, 3, 4, 5, 6, 7, 8, 9, 10, 11, 12, 13, 14, 15, 16, 17, 18, 19, 20, 21, 22, 23, 24, 25, 26, 27, 28, 29, 30, 31, 32, 33, 91, 92, 93, 94, 95, 34, 35, 36, 37, 38, 39, 40, 41, 42, 43, 44, 45, 46, 47, 48, 49, 50, 51, 52, 53, 54, 55, 56, 57, 58, 59, 60, 61, 62, 63, 64, 65, 66, 67, 68, 69, 70, 71, 72, 73, 74, 75, 76, 77, 78, 79, 80, 81, 82, 83, 84, 85, 86, 87, 88, 89, 90]
theorem I5_perm : I5.Perm (List.range 96) := by decide +kernel
set_option maxRecDepth 100000 in
theorem w5_D {A : Nat → Prop} {cy : Nat → ClassId} {ad : Nat → Nat} {X : va_W} (h : va_D A (WX5 cy (ad 0) ad ++ X)) (σ : St) : va_D A (qw ceC 96 ad cy σ ++ X) := by
  refine va_D_map h ?_
  rw [List.map_append, List.map_append]
  refine List.Perm.append_right _ ?_
  have e : (qw ceC 96 ad cy σ).map Prod.fst = (List.range 96).map ad := by
    unfold qw
    rw [List.map_map]
    rfl
  rw [e]
  have e2 : (WX5 cy (ad 0) ad).map Prod.fst = I5.map ad := rfl
  rw [e2]
  exact I5_perm.map ad
set_option maxRecDepth 100000 in
set_option maxHeartbeats 4000000 in
theorem w5_P {D : va_G} {cy : Nat → ClassId} {ad : Nat → Nat} {X : va_W} {H : Heap} (h : va_P D vwCl (WX5 cy (ad 0) ad ++ X) H) : va_P D vwCl (qw ceC 96 ad cy σ5 ++ X) H := by
  have hm : ∀ x, x ∈ WX5 cy (ad 0) ad ++ X → va_at D vwCl x H := fun x hx => by
    obtain ⟨i, hi⟩ := List.getElem?_of_mem hx
    exact h i x hi
  have g : ∀ k y, (WX5 cy (ad 0) ad)[k]? = some y → va_at D vwCl y H := fun k y hk => hm y (List.mem_append_left _ (List.mem_of_getElem? hk))
  have hq : ∀ i ∈ List.range 96, va_at D vwCl (ad i, ceC ad cy σ5.2.2 i (σ5.1 i) (σ5.2.1 i)) H := by
    rw [show List.range 96 = [0, 1, 2, 3, 4, 5, 6, 7, 8, 9, 10, 11, 12, 13, 14, 15, 16, 17, 18, 19, 20, 21, 22, 23, 24, 25, 26, 27, 28, 29, 30, 31, 32, 33, 34, 35, 36, 37, 38, 39, 40, 41, 42, 43, 44, 45, 46, 47, 48, 49, 50, 51, 52, 53, 54, 55, 56, 57, 58, 59, 60, 61, 62, 63, 64, 65, 66, 67, 68, 69, 70, 71, 72, 73, 74, 75, 76, 77, 78, 79, 80, 81, 82, 83, 84, 85, 86, 87, 88, 89, 90, 91, 92, 93, 94, 95] from rfl]
    refine List.forall_mem_cons.mpr ⟨g 0 _ rfl, ?_⟩
    refine List.forall_mem_cons.mpr ⟨g 1 _ rfl, ?_⟩
    refine List.forall_mem_cons.mpr ⟨g 2 _ rfl, ?_⟩
    refine List.forall_mem_cons.mpr ⟨g 3 _ rfl, ?_⟩
    refine List.forall_mem_cons.mpr ⟨g 4 _ rfl, ?_⟩
    refine List.forall_mem_cons.mpr ⟨g 5 _ rfl, ?_⟩
    refine List.forall_mem_cons.mpr ⟨(by rw [ceC_6]; exact va_at_q (g 6 _ rfl) aaF_lt), ?_⟩
    refine List.forall_mem_cons.mpr ⟨g 7 _ rfl, ?_⟩
    refine List.forall_mem_cons.mpr ⟨g 8 _ rfl, ?_⟩
    refine List.forall_mem_cons.mpr ⟨g 9 _ rfl, ?_⟩
    refine List.forall_mem_cons.mpr ⟨g 10 _ rfl, ?_⟩
    refine List.forall_mem_cons.mpr ⟨g 11 _ rfl, ?_⟩
    refine List.forall_mem_cons.mpr ⟨g 12 _ rfl, ?_⟩
    refine List.forall_mem_cons.mpr ⟨g 13 _ rfl, ?_⟩
    refine List.forall_mem_cons.mpr ⟨(by rw [ceC_14]; exact va_at_q (g 14 _ rfl) aaF_lt), ?_⟩
    refine List.forall_mem_cons.mpr ⟨g 15 _ rfl, ?_⟩
    refine List.forall_mem_cons.mpr ⟨g 16 _ rfl, ?_⟩
    refine List.forall_mem_cons.mpr ⟨g 17 _ rfl, ?_⟩
    refine List.forall_mem_cons.mpr ⟨g 18 _ rfl, ?_⟩
    refine List.forall_mem_cons.mpr ⟨g 19 _ rfl, ?_⟩
    refine List.forall_mem_cons.mpr ⟨g 20 _ rfl, ?_⟩
    refine List.forall_mem_cons.mpr ⟨g 21 _ rfl, ?_⟩
    refine List.forall_mem_cons.mpr ⟨g 22 _ rfl, ?_⟩
    refine List.forall_mem_cons.mpr ⟨(by rw [ceC_23]; exact va_at_q (g 23 _ rfl) aaF_lt), ?_⟩
    refine List.forall_mem_cons.mpr ⟨g 24 _ rfl, ?_⟩
    refine List.forall_mem_cons.mpr ⟨g 25 _ rfl, ?_⟩
    refine List.forall_mem_cons.mpr ⟨g 26 _ rfl, ?_⟩
    refine List.forall_mem_cons.mpr ⟨g 27 _ rfl, ?_⟩
    refine List.forall_mem_cons.mpr ⟨g 28 _ rfl, ?_⟩
    refine List.forall_mem_cons.mpr ⟨g 29 _ rfl, ?_⟩
    refine List.forall_mem_cons.mpr ⟨g 30 _ rfl, ?_⟩
    refine List.forall_mem_cons.mpr ⟨g 31 _ rfl, ?_⟩
    refine List.forall_mem_cons.mpr ⟨g 32 _ rfl, ?_⟩
    refine List.forall_mem_cons.mpr ⟨(by rw [ceC_33]; exact va_at_q (g 33 _ rfl) (fun i h => by rcases (show i = 0 ∨ i = 1 ∨ i = 2 ∨ i = 3 ∨ i = 4 ∨ i = 5 by omega) with rfl | rfl | rfl | rfl | rfl | rfl <;> rfl)), ?_⟩
    refine List.forall_mem_cons.mpr ⟨g 39 _ rfl, ?_⟩
    refine List.forall_mem_cons.mpr ⟨g 40 _ rfl, ?_⟩
    refine List.forall_mem_cons.mpr ⟨g 41 _ rfl, ?_⟩
    refine List.forall_mem_cons.mpr ⟨(by rw [ceC_37]; exact va_at_q (g 42 _ rfl) aaF_lt), ?_⟩
    refine List.forall_mem_cons.mpr ⟨g 43 _ rfl, ?_⟩
    refine List.forall_mem_cons.mpr ⟨g 44 _ rfl, ?_⟩
    refine List.forall_mem_cons.mpr ⟨g 45 _ rfl, ?_⟩
    refine List.forall_mem_cons.mpr ⟨g 46 _ rfl, ?_⟩
    refine List.forall_mem_cons.mpr ⟨g 47 _ rfl, ?_⟩
    refine List.forall_mem_cons.mpr ⟨g 48 _ rfl, ?_⟩
    refine List.forall_mem_cons.mpr ⟨(by rw [ceC_44]; exact va_at_q (g 49 _ rfl) aaF_lt), ?_⟩
    refine List.forall_mem_cons.mpr ⟨g 50 _ rfl, ?_⟩
    refine List.forall_mem_cons.mpr ⟨g 51 _ rfl, ?_⟩
    refine List.forall_mem_cons.mpr ⟨g 52 _ rfl, ?_⟩
    refine List.forall_mem_cons.mpr ⟨g 53 _ rfl, ?_⟩
    refine List.forall_mem_cons.mpr ⟨g 54 _ rfl, ?_⟩
    refine List.forall_mem_cons.mpr ⟨g 55 _ rfl, ?_⟩
    refine List.forall_mem_cons.mpr ⟨(by rw [ceC_51]; exact va_at_q (g 56 _ rfl) aaF_lt), ?_⟩
    refine List.forall_mem_cons.mpr ⟨g 57 _ rfl, ?_⟩
    refine List.forall_mem_cons.mpr ⟨g 58 _ rfl, ?_⟩
    refine List.forall_mem_cons.mpr ⟨g 59 _ rfl, ?_⟩
    refine List.forall_mem_cons.mpr ⟨g 60 _ rfl, ?_⟩
    refine List.forall_mem_cons.mpr ⟨g 61 _ rfl, ?_⟩
    refine List.forall_mem_cons.mpr ⟨g 62 _ rfl, ?_⟩
    refine List.forall_mem_cons.mpr ⟨g 63 _ rfl, ?_⟩
    refine List.forall_mem_cons.mpr ⟨g 64 _ rfl, ?_⟩
    refine List.forall_mem_cons.mpr ⟨g 65 _ rfl, ?_⟩
    refine List.forall_mem_cons.mpr ⟨g 66 _ rfl, ?_⟩
    refine List.forall_mem_cons.mpr ⟨g 67 _ rfl, ?_⟩
    refine List.forall_mem_cons.mpr ⟨g 68 _ rfl, ?_⟩
    refine List.forall_mem_cons.mpr ⟨g 69 _ rfl, ?_⟩
    refine List.forall_mem_cons.mpr ⟨g 70 _ rfl, ?_⟩
    refine List.forall_mem_cons.mpr ⟨g 71 _ rfl, ?_⟩
    refine List.forall_mem_cons.mpr ⟨g 72 _ rfl, ?_⟩
    refine List.forall_mem_cons.mpr ⟨g 73 _ rfl, ?_⟩
    refine List.forall_mem_cons.mpr ⟨g 74 _ rfl, ?_⟩
    refine List.forall_mem_cons.mpr ⟨g 75 _ rfl, ?_⟩
    refine List.forall_mem_cons.mpr ⟨g 76 _ rfl, ?_⟩
    refine List.forall_mem_cons.mpr ⟨g 77 _ rfl, ?_⟩
    refine List.forall_mem_cons.mpr ⟨g 78 _ rfl, ?_⟩
    refine List.forall_mem_cons.mpr ⟨g 79 _ rfl, ?_⟩
    refine List.forall_mem_cons.mpr ⟨g 80 _ rfl, ?_⟩
    refine List.forall_mem_cons.mpr ⟨g 81 _ rfl, ?_⟩
    refine List.forall_mem_cons.mpr ⟨g 82 _ rfl, ?_⟩
    refine List.forall_mem_cons.mpr ⟨g 83 _ rfl, ?_⟩
    refine List.forall_mem_cons.mpr ⟨g 84 _ rfl, ?_⟩
    refine List.forall_mem_cons.mpr ⟨g 85 _ rfl, ?_⟩
    refine List.forall_mem_cons.mpr ⟨g 86 _ rfl, ?_⟩
    refine List.forall_mem_cons.mpr ⟨g 87 _ rfl, ?_⟩
    refine List.forall_mem_cons.mpr ⟨g 88 _ rfl, ?_⟩
    refine List.forall_mem_cons.mpr ⟨g 89 _ rfl, ?_⟩
    refine List.forall_mem_cons.mpr ⟨g 90 _ rfl, ?_⟩
    refine List.forall_mem_cons.mpr ⟨g 91 _ rfl, ?_⟩
    refine List.forall_mem_cons.mpr ⟨g 92 _ rfl, ?_⟩
    refine List.forall_mem_cons.mpr ⟨g 93 _ rfl, ?_⟩
    refine List.forall_mem_cons.mpr ⟨g 94 _ rfl, ?_⟩
    refine List.forall_mem_cons.mpr ⟨g 95 _ rfl, ?_⟩
    refine List.forall_mem_cons.mpr ⟨g 34 _ rfl, ?_⟩
    refine List.forall_mem_cons.mpr ⟨g 35 _ rfl, ?_⟩
    refine List.forall_mem_cons.mpr ⟨g 36 _ rfl, ?_⟩
    refine List.forall_mem_cons.mpr ⟨g 37 _ rfl, ?_⟩
    refine List.forall_mem_cons.mpr ⟨g 38 _ rfl, ?_⟩
    exact fun _ h => absurd h List.not_mem_nil
  intro k q hk
  rcases List.mem_append.mp (List.mem_of_getElem? hk) with hl | hr
  · unfold qw at hl
    obtain ⟨i, hi, rfl⟩ := List.mem_map.mp hl
    exact hq i hi
  · exact hm q (List.mem_append_right _ hr)
