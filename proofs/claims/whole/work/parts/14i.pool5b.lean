set_option maxRecDepth 100000 in
set_option maxHeartbeats 4000000 in
theorem w5_P {D : va_G} {cy : Nat → ClassId} {ad : Nat → Nat} {X : va_W} {H : Heap} (h : va_P D vwCl (WX5 cy (ad 0) ad ++ X) H) : va_P D vwCl (qw ceC 96 ad cy σ5 ++ X) H := by
  have hm : ∀ x, x ∈ WX5 cy (ad 0) ad ++ X → va_at D vwCl x H := fun x hx => by
    obtain ⟨i, hi⟩ := List.getElem?_of_mem hx
    exact h i x hi
  have hf : ∀ x, x ∈ WX5 cy (ad 0) ad → va_at D vwCl x H := fun x hx => hm x (List.mem_append_left _ hx)
  rw [w5_flat] at hf
  obtain ⟨h0, hf⟩ := List.forall_mem_cons.mp hf
  obtain ⟨h1, hf⟩ := List.forall_mem_cons.mp hf
  obtain ⟨h2, hf⟩ := List.forall_mem_cons.mp hf
  obtain ⟨h3, hf⟩ := List.forall_mem_cons.mp hf
  obtain ⟨h4, hf⟩ := List.forall_mem_cons.mp hf
  obtain ⟨h5, hf⟩ := List.forall_mem_cons.mp hf
  obtain ⟨h6, hf⟩ := List.forall_mem_cons.mp hf
  obtain ⟨h7, hf⟩ := List.forall_mem_cons.mp hf
  obtain ⟨h8, hf⟩ := List.forall_mem_cons.mp hf
  obtain ⟨h9, hf⟩ := List.forall_mem_cons.mp hf
  obtain ⟨h10, hf⟩ := List.forall_mem_cons.mp hf
  obtain ⟨h11, hf⟩ := List.forall_mem_cons.mp hf
  obtain ⟨h12, hf⟩ := List.forall_mem_cons.mp hf
  obtain ⟨h13, hf⟩ := List.forall_mem_cons.mp hf
  obtain ⟨h14, hf⟩ := List.forall_mem_cons.mp hf
  obtain ⟨h15, hf⟩ := List.forall_mem_cons.mp hf
  obtain ⟨h16, hf⟩ := List.forall_mem_cons.mp hf
  obtain ⟨h17, hf⟩ := List.forall_mem_cons.mp hf
  obtain ⟨h18, hf⟩ := List.forall_mem_cons.mp hf
  obtain ⟨h19, hf⟩ := List.forall_mem_cons.mp hf
  obtain ⟨h20, hf⟩ := List.forall_mem_cons.mp hf
  obtain ⟨h21, hf⟩ := List.forall_mem_cons.mp hf
  obtain ⟨h22, hf⟩ := List.forall_mem_cons.mp hf
  obtain ⟨h23, hf⟩ := List.forall_mem_cons.mp hf
  obtain ⟨h24, hf⟩ := List.forall_mem_cons.mp hf
  obtain ⟨h25, hf⟩ := List.forall_mem_cons.mp hf
  obtain ⟨h26, hf⟩ := List.forall_mem_cons.mp hf
  obtain ⟨h27, hf⟩ := List.forall_mem_cons.mp hf
  obtain ⟨h28, hf⟩ := List.forall_mem_cons.mp hf
  obtain ⟨h29, hf⟩ := List.forall_mem_cons.mp hf
  obtain ⟨h30, hf⟩ := List.forall_mem_cons.mp hf
  obtain ⟨h31, hf⟩ := List.forall_mem_cons.mp hf
  obtain ⟨h32, hf⟩ := List.forall_mem_cons.mp hf
  obtain ⟨h33, hf⟩ := List.forall_mem_cons.mp hf
  obtain ⟨h91, hf⟩ := List.forall_mem_cons.mp hf
  obtain ⟨h92, hf⟩ := List.forall_mem_cons.mp hf
  obtain ⟨h93, hf⟩ := List.forall_mem_cons.mp hf
  obtain ⟨h94, hf⟩ := List.forall_mem_cons.mp hf
  obtain ⟨h95, hf⟩ := List.forall_mem_cons.mp hf
  obtain ⟨h34, hf⟩ := List.forall_mem_cons.mp hf
  obtain ⟨h35, hf⟩ := List.forall_mem_cons.mp hf
  obtain ⟨h36, hf⟩ := List.forall_mem_cons.mp hf
  obtain ⟨h37, hf⟩ := List.forall_mem_cons.mp hf
  obtain ⟨h38, hf⟩ := List.forall_mem_cons.mp hf
  obtain ⟨h39, hf⟩ := List.forall_mem_cons.mp hf
  obtain ⟨h40, hf⟩ := List.forall_mem_cons.mp hf
  obtain ⟨h41, hf⟩ := List.forall_mem_cons.mp hf
  obtain ⟨h42, hf⟩ := List.forall_mem_cons.mp hf
  obtain ⟨h43, hf⟩ := List.forall_mem_cons.mp hf
  obtain ⟨h44, hf⟩ := List.forall_mem_cons.mp hf
  obtain ⟨h45, hf⟩ := List.forall_mem_cons.mp hf
  obtain ⟨h46, hf⟩ := List.forall_mem_cons.mp hf
  obtain ⟨h47, hf⟩ := List.forall_mem_cons.mp hf
  obtain ⟨h48, hf⟩ := List.forall_mem_cons.mp hf
  obtain ⟨h49, hf⟩ := List.forall_mem_cons.mp hf
  obtain ⟨h50, hf⟩ := List.forall_mem_cons.mp hf
  obtain ⟨h51, hf⟩ := List.forall_mem_cons.mp hf
  obtain ⟨h52, hf⟩ := List.forall_mem_cons.mp hf
  obtain ⟨h53, hf⟩ := List.forall_mem_cons.mp hf
  obtain ⟨h54, hf⟩ := List.forall_mem_cons.mp hf
  obtain ⟨h55, hf⟩ := List.forall_mem_cons.mp hf
  obtain ⟨h56, hf⟩ := List.forall_mem_cons.mp hf
  obtain ⟨h57, hf⟩ := List.forall_mem_cons.mp hf
  obtain ⟨h58, hf⟩ := List.forall_mem_cons.mp hf
  obtain ⟨h59, hf⟩ := List.forall_mem_cons.mp hf
  obtain ⟨h60, hf⟩ := List.forall_mem_cons.mp hf
  obtain ⟨h61, hf⟩ := List.forall_mem_cons.mp hf
  obtain ⟨h62, hf⟩ := List.forall_mem_cons.mp hf
  obtain ⟨h63, hf⟩ := List.forall_mem_cons.mp hf
  obtain ⟨h64, hf⟩ := List.forall_mem_cons.mp hf
  obtain ⟨h65, hf⟩ := List.forall_mem_cons.mp hf
  obtain ⟨h66, hf⟩ := List.forall_mem_cons.mp hf
  obtain ⟨h67, hf⟩ := List.forall_mem_cons.mp hf
  obtain ⟨h68, hf⟩ := List.forall_mem_cons.mp hf
  obtain ⟨h69, hf⟩ := List.forall_mem_cons.mp hf
  obtain ⟨h70, hf⟩ := List.forall_mem_cons.mp hf
  obtain ⟨h71, hf⟩ := List.forall_mem_cons.mp hf
  obtain ⟨h72, hf⟩ := List.forall_mem_cons.mp hf
  obtain ⟨h73, hf⟩ := List.forall_mem_cons.mp hf
  obtain ⟨h74, hf⟩ := List.forall_mem_cons.mp hf
  obtain ⟨h75, hf⟩ := List.forall_mem_cons.mp hf
  obtain ⟨h76, hf⟩ := List.forall_mem_cons.mp hf
  obtain ⟨h77, hf⟩ := List.forall_mem_cons.mp hf
  obtain ⟨h78, hf⟩ := List.forall_mem_cons.mp hf
  obtain ⟨h79, hf⟩ := List.forall_mem_cons.mp hf
  obtain ⟨h80, hf⟩ := List.forall_mem_cons.mp hf
  obtain ⟨h81, hf⟩ := List.forall_mem_cons.mp hf
  obtain ⟨h82, hf⟩ := List.forall_mem_cons.mp hf
  obtain ⟨h83, hf⟩ := List.forall_mem_cons.mp hf
  obtain ⟨h84, hf⟩ := List.forall_mem_cons.mp hf
  obtain ⟨h85, hf⟩ := List.forall_mem_cons.mp hf
  obtain ⟨h86, hf⟩ := List.forall_mem_cons.mp hf
  obtain ⟨h87, hf⟩ := List.forall_mem_cons.mp hf
  obtain ⟨h88, hf⟩ := List.forall_mem_cons.mp hf
  obtain ⟨h89, hf⟩ := List.forall_mem_cons.mp hf
  obtain ⟨h90, hf⟩ := List.forall_mem_cons.mp hf
  have hq : ∀ i ∈ List.range 96, va_at D vwCl (ad i, ceC ad cy σ5.2.2 i (σ5.1 i) (σ5.2.1 i)) H := by
    rw [show List.range 96 = [0, 1, 2, 3, 4, 5, 6, 7, 8, 9, 10, 11, 12, 13, 14, 15, 16, 17, 18, 19, 20, 21, 22, 23, 24, 25, 26, 27, 28, 29, 30, 31, 32, 33, 34, 35, 36, 37, 38, 39, 40, 41, 42, 43, 44, 45, 46, 47, 48, 49, 50, 51, 52, 53, 54, 55, 56, 57, 58, 59, 60, 61, 62, 63, 64, 65, 66, 67, 68, 69, 70, 71, 72, 73, 74, 75, 76, 77, 78, 79, 80, 81, 82, 83, 84, 85, 86, 87, 88, 89, 90, 91, 92, 93, 94, 95] from rfl]
    refine List.forall_mem_cons.mpr ⟨by rw [w5_c0]; exact h0, ?_⟩
    refine List.forall_mem_cons.mpr ⟨by rw [w5_c1]; exact h1, ?_⟩
    refine List.forall_mem_cons.mpr ⟨by rw [w5_c2]; exact h2, ?_⟩
    refine List.forall_mem_cons.mpr ⟨by rw [w5_c3]; exact h3, ?_⟩
    refine List.forall_mem_cons.mpr ⟨by rw [w5_c4]; exact h4, ?_⟩
    refine List.forall_mem_cons.mpr ⟨by rw [w5_c5]; exact h5, ?_⟩
    refine List.forall_mem_cons.mpr ⟨by rw [ceC_6]; exact va_at_q h6 (fun i h => by rcases (show i = 0 ∨ i = 1 ∨ i = 2 ∨ i = 3 ∨ i = 4 ∨ i = 5 by omega) with rfl | rfl | rfl | rfl | rfl | rfl <;> rfl), ?_⟩
    refine List.forall_mem_cons.mpr ⟨by rw [w5_c7]; exact h7, ?_⟩
    refine List.forall_mem_cons.mpr ⟨by rw [w5_c8]; exact h8, ?_⟩
    refine List.forall_mem_cons.mpr ⟨by rw [w5_c9]; exact h9, ?_⟩
    refine List.forall_mem_cons.mpr ⟨by rw [w5_c10]; exact h10, ?_⟩
    refine List.forall_mem_cons.mpr ⟨by rw [w5_c11]; exact h11, ?_⟩
    refine List.forall_mem_cons.mpr ⟨by rw [w5_c12]; exact h12, ?_⟩
    refine List.forall_mem_cons.mpr ⟨by rw [w5_c13]; exact h13, ?_⟩
    refine List.forall_mem_cons.mpr ⟨by rw [ceC_14]; exact va_at_q h14 (fun i h => by rcases (show i = 0 ∨ i = 1 ∨ i = 2 ∨ i = 3 ∨ i = 4 ∨ i = 5 by omega) with rfl | rfl | rfl | rfl | rfl | rfl <;> rfl), ?_⟩
    refine List.forall_mem_cons.mpr ⟨by rw [w5_c15]; exact h15, ?_⟩
    refine List.forall_mem_cons.mpr ⟨by rw [w5_c16]; exact h16, ?_⟩
    refine List.forall_mem_cons.mpr ⟨by rw [w5_c17]; exact h17, ?_⟩
    refine List.forall_mem_cons.mpr ⟨by rw [w5_c18]; exact h18, ?_⟩
    refine List.forall_mem_cons.mpr ⟨by rw [w5_c19]; exact h19, ?_⟩
    refine List.forall_mem_cons.mpr ⟨by rw [w5_c20]; exact h20, ?_⟩
    refine List.forall_mem_cons.mpr ⟨by rw [w5_c21]; exact h21, ?_⟩
    refine List.forall_mem_cons.mpr ⟨by rw [w5_c22]; exact h22, ?_⟩
    refine List.forall_mem_cons.mpr ⟨by rw [ceC_23]; exact va_at_q h23 (fun i h => by rcases (show i = 0 ∨ i = 1 ∨ i = 2 ∨ i = 3 ∨ i = 4 ∨ i = 5 by omega) with rfl | rfl | rfl | rfl | rfl | rfl <;> rfl), ?_⟩
    refine List.forall_mem_cons.mpr ⟨by rw [w5_c24]; exact h24, ?_⟩
    refine List.forall_mem_cons.mpr ⟨by rw [w5_c25]; exact h25, ?_⟩
    refine List.forall_mem_cons.mpr ⟨by rw [w5_c26]; exact h26, ?_⟩
    refine List.forall_mem_cons.mpr ⟨by rw [w5_c27]; exact h27, ?_⟩
    refine List.forall_mem_cons.mpr ⟨by rw [w5_c28]; exact h28, ?_⟩
    refine List.forall_mem_cons.mpr ⟨by rw [w5_c29]; exact h29, ?_⟩
    refine List.forall_mem_cons.mpr ⟨by rw [w5_c30]; exact h30, ?_⟩
    refine List.forall_mem_cons.mpr ⟨by rw [w5_c31]; exact h31, ?_⟩
    refine List.forall_mem_cons.mpr ⟨by rw [w5_c32]; exact h32, ?_⟩
    refine List.forall_mem_cons.mpr ⟨by rw [ceC_33]; exact va_at_q h33 (fun i h => by rcases (show i = 0 ∨ i = 1 ∨ i = 2 ∨ i = 3 ∨ i = 4 ∨ i = 5 by omega) with rfl | rfl | rfl | rfl | rfl | rfl <;> rfl), ?_⟩
    refine List.forall_mem_cons.mpr ⟨by rw [w5_c34]; exact h34, ?_⟩
    refine List.forall_mem_cons.mpr ⟨by rw [w5_c35]; exact h35, ?_⟩
    refine List.forall_mem_cons.mpr ⟨by rw [w5_c36]; exact h36, ?_⟩
    refine List.forall_mem_cons.mpr ⟨by rw [ceC_37]; exact va_at_q h37 (fun i h => by rcases (show i = 0 ∨ i = 1 ∨ i = 2 ∨ i = 3 ∨ i = 4 ∨ i = 5 by omega) with rfl | rfl | rfl | rfl | rfl | rfl <;> rfl), ?_⟩
    refine List.forall_mem_cons.mpr ⟨by rw [w5_c38]; exact h38, ?_⟩
    refine List.forall_mem_cons.mpr ⟨by rw [w5_c39]; exact h39, ?_⟩
    refine List.forall_mem_cons.mpr ⟨by rw [w5_c40]; exact h40, ?_⟩
    refine List.forall_mem_cons.mpr ⟨by rw [w5_c41]; exact h41, ?_⟩
    refine List.forall_mem_cons.mpr ⟨by rw [w5_c42]; exact h42, ?_⟩
    refine List.forall_mem_cons.mpr ⟨by rw [w5_c43]; exact h43, ?_⟩
    refine List.forall_mem_cons.mpr ⟨by rw [ceC_44]; exact va_at_q h44 (fun i h => by rcases (show i = 0 ∨ i = 1 ∨ i = 2 ∨ i = 3 ∨ i = 4 ∨ i = 5 by omega) with rfl | rfl | rfl | rfl | rfl | rfl <;> rfl), ?_⟩
    refine List.forall_mem_cons.mpr ⟨by rw [w5_c45]; exact h45, ?_⟩
    refine List.forall_mem_cons.mpr ⟨by rw [w5_c46]; exact h46, ?_⟩
    refine List.forall_mem_cons.mpr ⟨by rw [w5_c47]; exact h47, ?_⟩
    refine List.forall_mem_cons.mpr ⟨by rw [w5_c48]; exact h48, ?_⟩
    refine List.forall_mem_cons.mpr ⟨by rw [w5_c49]; exact h49, ?_⟩
    refine List.forall_mem_cons.mpr ⟨by rw [w5_c50]; exact h50, ?_⟩
    refine List.forall_mem_cons.mpr ⟨by rw [ceC_51]; exact va_at_q h51 (fun i h => by rcases (show i = 0 ∨ i = 1 ∨ i = 2 ∨ i = 3 ∨ i = 4 ∨ i = 5 by omega) with rfl | rfl | rfl | rfl | rfl | rfl <;> rfl), ?_⟩
    refine List.forall_mem_cons.mpr ⟨by rw [w5_c52]; exact h52, ?_⟩
    refine List.forall_mem_cons.mpr ⟨by rw [w5_c53]; exact h53, ?_⟩
    refine List.forall_mem_cons.mpr ⟨by rw [w5_c54]; exact h54, ?_⟩
    refine List.forall_mem_cons.mpr ⟨by rw [w5_c55]; exact h55, ?_⟩
    refine List.forall_mem_cons.mpr ⟨by rw [w5_c56]; exact h56, ?_⟩
    refine List.forall_mem_cons.mpr ⟨by rw [w5_c57]; exact h57, ?_⟩
    refine List.forall_mem_cons.mpr ⟨by rw [w5_c58]; exact h58, ?_⟩
    refine List.forall_mem_cons.mpr ⟨by rw [w5_c59]; exact h59, ?_⟩
    refine List.forall_mem_cons.mpr ⟨by rw [w5_c60]; exact h60, ?_⟩
    refine List.forall_mem_cons.mpr ⟨by rw [w5_c61]; exact h61, ?_⟩
    refine List.forall_mem_cons.mpr ⟨by rw [w5_c62]; exact h62, ?_⟩
    refine List.forall_mem_cons.mpr ⟨by rw [w5_c63]; exact h63, ?_⟩
    refine List.forall_mem_cons.mpr ⟨by rw [w5_c64]; exact h64, ?_⟩
    refine List.forall_mem_cons.mpr ⟨by rw [w5_c65]; exact h65, ?_⟩
    refine List.forall_mem_cons.mpr ⟨by rw [w5_c66]; exact h66, ?_⟩
    refine List.forall_mem_cons.mpr ⟨by rw [w5_c67]; exact h67, ?_⟩
    refine List.forall_mem_cons.mpr ⟨by rw [w5_c68]; exact h68, ?_⟩
    refine List.forall_mem_cons.mpr ⟨by rw [w5_c69]; exact h69, ?_⟩
    refine List.forall_mem_cons.mpr ⟨by rw [w5_c70]; exact h70, ?_⟩
    refine List.forall_mem_cons.mpr ⟨by rw [w5_c71]; exact h71, ?_⟩
    refine List.forall_mem_cons.mpr ⟨by rw [w5_c72]; exact h72, ?_⟩
    refine List.forall_mem_cons.mpr ⟨by rw [w5_c73]; exact h73, ?_⟩
    refine List.forall_mem_cons.mpr ⟨by rw [w5_c74]; exact h74, ?_⟩
    refine List.forall_mem_cons.mpr ⟨by rw [w5_c75]; exact h75, ?_⟩
    refine List.forall_mem_cons.mpr ⟨by rw [w5_c76]; exact h76, ?_⟩
    refine List.forall_mem_cons.mpr ⟨by rw [w5_c77]; exact h77, ?_⟩
    refine List.forall_mem_cons.mpr ⟨by rw [w5_c78]; exact h78, ?_⟩
    refine List.forall_mem_cons.mpr ⟨by rw [w5_c79]; exact h79, ?_⟩
    refine List.forall_mem_cons.mpr ⟨by rw [w5_c80]; exact h80, ?_⟩
    refine List.forall_mem_cons.mpr ⟨by rw [w5_c81]; exact h81, ?_⟩
    refine List.forall_mem_cons.mpr ⟨by rw [w5_c82]; exact h82, ?_⟩
    refine List.forall_mem_cons.mpr ⟨by rw [w5_c83]; exact h83, ?_⟩
    refine List.forall_mem_cons.mpr ⟨by rw [w5_c84]; exact h84, ?_⟩
    refine List.forall_mem_cons.mpr ⟨by rw [w5_c85]; exact h85, ?_⟩
    refine List.forall_mem_cons.mpr ⟨by rw [w5_c86]; exact h86, ?_⟩
    refine List.forall_mem_cons.mpr ⟨by rw [w5_c87]; exact h87, ?_⟩
    refine List.forall_mem_cons.mpr ⟨by rw [w5_c88]; exact h88, ?_⟩
    refine List.forall_mem_cons.mpr ⟨by rw [w5_c89]; exact h89, ?_⟩
    refine List.forall_mem_cons.mpr ⟨by rw [w5_c90]; exact h90, ?_⟩
    refine List.forall_mem_cons.mpr ⟨by rw [w5_c91]; exact h91, ?_⟩
    refine List.forall_mem_cons.mpr ⟨by rw [w5_c92]; exact h92, ?_⟩
    refine List.forall_mem_cons.mpr ⟨by rw [w5_c93]; exact h93, ?_⟩
    refine List.forall_mem_cons.mpr ⟨by rw [w5_c94]; exact h94, ?_⟩
    refine List.forall_mem_cons.mpr ⟨by rw [w5_c95]; exact h95, ?_⟩
    exact fun _ h => absurd h List.not_mem_nil
  intro k q hk
  rcases List.mem_append.mp (List.mem_of_getElem? hk) with hl | hr
  · unfold qw at hl
    obtain ⟨i, hi, rfl⟩ := List.mem_map.mp hl
    exact hq i hi
  · exact hm q (List.mem_append_right _ hr)
