-- ===== the pure programs: plain facts =====
theorem qix_nI {β : Type} {k n : Nat} {b : Option β} (h : k < n) (hn : n ≤ 2 ^ 31) : qix (nI k) n b = b := by
  unfold qix
  rw [if_pos ⟨nI_pos' (by omega), by rw [nI_clamp (by omega)]; exact h⟩]
theorem qtx_lt {β : Type} {t : Nat} {b : Option β} (h : t < 7) : qtx t b = b := if_pos h
theorem qzz_0 {β : Type} {b : Option β} : qzz 0 b = b := rfl
theorem qzz_1 {β : Type} {b : Option β} : qzz 1 b = b := rfl
theorem qcall_s {α β : Type} {r : α} {σ : St} {f : α → St → Option β} : qcall (some (r, σ)) f = f r σ := rfl
theorem qcall_e {α β : Type} {e : Option (α × St)} {r : α} {σ : St} {f : α → St → Option β} (h : e = some (r, σ)) : qcall e f = f r σ := by rw [h]; rfl
theorem sI_1 (σ : St) (i k : Nat) (v : Int32) (j : Nat) : (sI σ i k v).1 j = if j = i then upd (σ.1 i) k v else σ.1 j := rfl
theorem sI_s (σ : St) (i k : Nat) (v : Int32) : (sI σ i k v).1 i = upd (σ.1 i) k v := by rw [sI_1, if_pos rfl]
theorem sI_n (σ : St) (i k : Nat) (v : Int32) {j : Nat} (h : j ≠ i) : (sI σ i k v).1 j = σ.1 j := by rw [sI_1, if_neg h]
theorem sI_2 (σ : St) (i k : Nat) (v : Int32) : (sI σ i k v).2 = σ.2 := rfl
theorem sJ_1 (σ : St) (i k : Nat) (v : Int64) : (sJ σ i k v).1 = σ.1 := rfl
theorem sT_1 (σ : St) (k v : Nat) : (sT σ k v).1 = σ.1 := rfl
theorem upd_s (f : Nat → Int32) (k : Nat) (v : Int32) : upd f k v k = v := pk_us
theorem upd_n (f : Nat → Int32) {k j : Nat} (v : Int32) (h : j ≠ k) : upd f k v j = f j := pk_un h
theorem nI_lit0 : (0 : Int32) = nI 0 := rfl
theorem nI_m1 (k : Nat) : nI (k + 1) - 1 = nI k := nI_pred k
theorem nI_neg1 {k : Nat} (h : k < 2 ^ 31) : ¬ nI k = -1 := fun q => by
  have := congrArg Int32.toInt q
  rw [nI_toInt h] at this
  have e : (-1 : Int32).toInt = -1 := by decide
  omega
-- ===== ages, light =====
/-- the age at the hour x, by the latest of the first k moons that is new by then -/
def ageS (h : Nat → Int32) (x : Int32) : Nat → Int32
  | 0 => -1
  | k + 1 => if x < h k then ageS h x k else x - h k
theorem ageS_cong {h g : Nat → Int32} {x : Int32} : ∀ {k : Nat}, (∀ j, j < k → h j = g j) → ageS h x k = ageS g x k
  | 0, _ => rfl
  | k + 1, e => by
    rw [ageS, ageS, e k (by omega), ageS_cong (fun j hj => e j (by omega))]
theorem fX4_ageOn_run {σ : St} {a1 a2 x : Int32} : ∀ (k n : Nat), k ≤ 14 → k < n → fX4_ageOn_L a1 a2 n x (nI k - 1) σ = some (ageS (σ.1 3) x k, σ)
  | 0, n + 1, _, _ => by
    rw [fX4_ageOn_L, if_pos (by decide)]
    rfl
  | k + 1, n + 1, hk, hn => by
    rw [fX4_ageOn_L, nI_m1, if_neg (nI_pos (by omega)), qix_nI (by omega) (by omega), nI_clamp (by omega), ageS]
    by_cases h : x < σ.1 3 k
    · rw [if_pos h, if_pos h]
      show fX4_ageOn_L a1 a2 n x (nI k + -1) σ = _
      have e : nI k + -1 = nI k - 1 := by rw [Int32.sub_eq_add_neg]
      rw [e]
      exact fX4_ageOn_run k n (by omega) (by omega)
    · rw [if_neg h, if_neg h, qix_nI (by omega) (by omega)]
theorem fX6_ageOf_run {σ : St} {a1 a2 x : Int32} {mo : Nat} (hm : σ.1 0 35 = nI mo) (hmo : mo ≤ 14) : ∀ (j k n : Nat), j + k = mo → j < n → fX6_ageOf_L a1 a2 n x (ageS (σ.1 22) x k) (nI k) σ = some (ageS (σ.1 22) x mo, σ)
  | 0, k, n + 1, e, _ => by
    have ek : k = mo := by omega
    subst ek
    rw [fX6_ageOf_L, hm, if_pos (nI_le (Nat.le_refl _) (by omega))]
  | j + 1, k, n + 1, e, hn => by
    rw [fX6_ageOf_L, hm, if_neg (nI_ge (by omega) (by omega)), qix_nI (by omega) (by omega), nI_clamp (by omega)]
    have ih := fX6_ageOf_run (a1 := a1) (a2 := a2) (x := x) hm hmo j (k + 1) n (by omega) (by omega)
    rw [ageS] at ih
    by_cases h : x < σ.1 22 k
    · simp only [qlet, if_pos h]
      rw [if_pos h] at ih
      rw [nI_1]
      exact ih
    · simp only [qlet, if_neg h, qix_nI (show k < 14 by omega) (by omega)]
      rw [if_neg h] at ih
      rw [nI_1]
      exact ih
/-- the hour in a land on an evening -/
def hourS (sh : Nat → Int32) (l : Nat) (d : Int32) : Int32 := (((24 : Int32) * d) + (18 : Int32)) + sh l
theorem fX4_ageOn_is {σ : St} {l mo : Nat} {d : Int32} (hl : l < 6) (hm : σ.1 2 6 = nI mo) (hmo : mo ≤ 14) : fX4_ageOn σ (nI l) d = some (ageS (σ.1 3) (hourS (σ.1 4) l d) mo, σ) := by
  unfold fX4_ageOn
  rw [qix_nI hl (by omega), nI_clamp (by omega), hm]
  exact fX4_ageOn_run mo 100000 hmo (by omega)
theorem fX6_ageOf_is {σ : St} {l mo : Nat} {d : Int32} (hl : l < 6) (hm : σ.1 0 35 = nI mo) (hmo : mo ≤ 14) : fX6_ageOf σ (nI l) d = some (ageS (σ.1 22) (hourS (σ.1 23) l d) mo, σ) := by
  unfold fX6_ageOf
  rw [qix_nI hl (by omega), nI_clamp (by omega)]
  exact fX6_ageOf_run hm hmo mo 0 100000 (by omega) (by omega)
