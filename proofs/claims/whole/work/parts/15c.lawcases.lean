set_option maxHeartbeats 4000000 in
set_option maxRecDepth 100000 in
theorem lc_feed {adC adM : Nat → Nat} {cy : Nat → ClassId} {A : Nat → Prop} {D : va_G} {zs : Nat × Nat × Option Nat} {p : Program} {l : Launch} {e : Env} {s : State} {m : MethodId} {args : Array Value} {below : List Frame} {meth : Method} {c : Code} {b L : Nat} {xs : Nat → Int32} {kc ks : Nat} {Q : State → Prop} {ret : Option FieldType} {σ μ : St} {mo la wn fn i : Nat} (C : qC ceC 96 adC cy (qw ceM 42 adM cy μ) A D zs cL_law 4 RL wsL_law p s m args meth c ret) (hX : lwX A b L xs s) (h6 : i + 6 ≤ L) (hR : kc ≤ room_1.cells ∧ ks ≤ room_1.slots) (I : Inv σ μ mo la wn fn) (ih : ∀ (σ μ : St) (mo la wn fn : Nat), Inv σ μ mo la wn fn → qW ceC 96 adC cy (qw ceM 42 adM cy μ) A D p l e room_1 s m args below meth c 4 kc ks Q 1046 [(0, .ref b), (1, .ref (adC 0)), (2, .ref (adM 0)), (3, .int (nI i))] [] σ) : qW ceC 96 adC cy (qw ceM 42 adM cy μ) A D p l e room_1 s m args below meth c 4 kc ks Q 144 [(0, .ref b), (1, .ref (adC 0)), (2, .ref (adM 0)), (3, .int (nI i))] [] σ := by
  have hi := h6
  obtain ⟨r, σ', μ', g5, g6, I2⟩ := p_feed I (xs (i + 1)) (xs (i + 2)) (xs (i + 3)) (xs (i + 4)) (xs (i + 5))
  refine q_aload_n C dL_law_144 rfl 1 rfl ?_
  refine q_arg C (a1 := 0) (a2 := 0) hX (K := 1) 1 hi (by decide) rfl rfl rfl dL_law_145 dL_law_146 dL_law_147 (by decide) dL_law_148 dL_law_149 ?_
  refine q_arg C (a1 := 0) (a2 := 0) hX (K := 2) 2 hi (by decide) rfl rfl rfl dL_law_150 dL_law_151 dL_law_152 (by decide) dL_law_153 dL_law_154 ?_
  refine q_arg C (a1 := 0) (a2 := 0) hX (K := 3) 3 hi (by decide) rfl rfl rfl dL_law_155 dL_law_156 dL_law_157 (by decide) dL_law_158 dL_law_159 ?_
  refine q_arg C (a1 := 0) (a2 := 0) hX (K := 4) 4 hi (by decide) rfl rfl rfl dL_law_160 dL_law_161 dL_law_162 (by decide) dL_law_163 dL_law_164 ?_
  refine q_arg C (a1 := 0) (a2 := 0) hX (K := 5) 5 hi (by decide) rfl rfl rfl dL_law_165 dL_law_166 dL_law_167 (by decide) dL_law_168 dL_law_169 ?_
  refine q_callVi C (rm := rmX5_feed) (As := [.int (xs (i + 1)), .int (xs (i + 2)), .int (xs (i + 3)), .int (xs (i + 4)), .int (xs (i + 5))]) (rest := []) (id := 0) (ci := 5) (f := fun r σ => some (r, σ)) (o := (r, σ')) (fun r9 σ9 h9 => kX5_feed l D adC cy _ A zs σ (xs (i + 1)) (xs (i + 2)) (xs (i + 3)) (xs (i + 4)) (xs (i + 5)) r9 σ9 h9) gL_law_X5_feed rfl rfl rfl hyX5_feed ⟨Nat.le_of_ble_eq_true rfl, Nat.le_of_ble_eq_true rfl⟩ (by decide) (ceC_0 adC cy _ _ _) rfl rfl rfl (Nat.le_of_ble_eq_true rfl) dL_law_170 hR (by rw [g5]; rfl) (fun r1 σ1 e1 => ?_)
  cases e1
  refine q_toM ?_
  have CM := qC_M C σ'
  refine q_aload_n CM dL_law_173 rfl 2 rfl ?_
  refine q_arg CM (a1 := 0) (a2 := 0) hX (K := 1) 1 hi (by decide) rfl rfl rfl dL_law_174 dL_law_175 dL_law_176 (by decide) dL_law_177 dL_law_178 ?_
  refine q_arg CM (a1 := 0) (a2 := 0) hX (K := 2) 2 hi (by decide) rfl rfl rfl dL_law_179 dL_law_180 dL_law_181 (by decide) dL_law_182 dL_law_183 ?_
  refine q_arg CM (a1 := 0) (a2 := 0) hX (K := 3) 3 hi (by decide) rfl rfl rfl dL_law_184 dL_law_185 dL_law_186 (by decide) dL_law_187 dL_law_188 ?_
  refine q_arg CM (a1 := 0) (a2 := 0) hX (K := 4) 4 hi (by decide) rfl rfl rfl dL_law_189 dL_law_190 dL_law_191 (by decide) dL_law_192 dL_law_193 ?_
  refine q_arg CM (a1 := 0) (a2 := 0) hX (K := 5) 5 hi (by decide) rfl rfl rfl dL_law_194 dL_law_195 dL_law_196 (by decide) dL_law_197 dL_law_198 ?_
  refine q_callVi CM (rm := rmX6_feed) (As := [.int (xs (i + 1)), .int (xs (i + 2)), .int (xs (i + 3)), .int (xs (i + 4)), .int (xs (i + 5))]) (rest := [.int r]) (id := 0) (ci := 6) (f := fun r σ => some (r, σ)) (o := (r, μ')) (fun r9 σ9 h9 => kX6_feed l D adM cy _ A zs μ (xs (i + 1)) (xs (i + 2)) (xs (i + 3)) (xs (i + 4)) (xs (i + 5)) r9 σ9 h9) gL_law_X6_feed rfl rfl rfl hyX6_feed ⟨Nat.le_of_ble_eq_true rfl, Nat.le_of_ble_eq_true rfl⟩ (by decide) (ceM_0 adM cy _ _ _) rfl rfl rfl (Nat.le_of_ble_eq_true rfl) dL_law_199 hR (by rw [g6]; rfl) (fun r1 σ1 e1 => ?_)
  cases e1
  refine q_toC ?_
  have C2 := qC_C C μ'
  refine q_icmp_eq C2 (tgt := 1046) (ft := some ()) (ff := none) (o := some ()) dL_law_202 (by decide) (if_pos rfl) (fun _ => ?_) (fun h => by cases h)
  exact ih σ' μ' mo la wn fn I2
set_option maxHeartbeats 4000000 in
set_option maxRecDepth 100000 in
theorem lc_back {adC adM : Nat → Nat} {cy : Nat → ClassId} {A : Nat → Prop} {D : va_G} {zs : Nat × Nat × Option Nat} {p : Program} {l : Launch} {e : Env} {s : State} {m : MethodId} {args : Array Value} {below : List Frame} {meth : Method} {c : Code} {b L : Nat} {xs : Nat → Int32} {kc ks : Nat} {Q : State → Prop} {ret : Option FieldType} {σ μ : St} {mo la wn fn i : Nat} (C : qC ceC 96 adC cy (qw ceM 42 adM cy μ) A D zs cL_law 4 RL wsL_law p s m args meth c ret) (hX : lwX A b L xs s) (h6 : i + 6 ≤ L) (hR : kc ≤ room_1.cells ∧ ks ≤ room_1.slots) (I : Inv σ μ mo la wn fn) (ih : ∀ (σ μ : St) (mo la wn fn : Nat), Inv σ μ mo la wn fn → qW ceC 96 adC cy (qw ceM 42 adM cy μ) A D p l e room_1 s m args below meth c 4 kc ks Q 1046 [(0, .ref b), (1, .ref (adC 0)), (2, .ref (adM 0)), (3, .int (nI i))] [] σ) : qW ceC 96 adC cy (qw ceM 42 adM cy μ) A D p l e room_1 s m args below meth c 4 kc ks Q 207 [(0, .ref b), (1, .ref (adC 0)), (2, .ref (adM 0)), (3, .int (nI i))] [] σ := by
  have hi := h6
  obtain ⟨r, σ', μ', g5, g6, I2⟩ := p_back I (xs (i + 1))
  refine q_aload_n C dL_law_207 rfl 1 rfl ?_
  refine q_arg C (a1 := 0) (a2 := 0) hX (K := 1) 1 hi (by decide) rfl rfl rfl dL_law_208 dL_law_209 dL_law_210 (by decide) dL_law_211 dL_law_212 ?_
  refine q_callVi C (rm := rmX5_back) (As := [.int (xs (i + 1))]) (rest := []) (id := 0) (ci := 5) (f := fun r σ => some (r, σ)) (o := (r, σ')) (fun r9 σ9 h9 => kX5_back l D adC cy _ A zs σ (xs (i + 1)) r9 σ9 h9) gL_law_X5_back rfl rfl rfl hyX5_back ⟨Nat.le_of_ble_eq_true rfl, Nat.le_of_ble_eq_true rfl⟩ (by decide) (ceC_0 adC cy _ _ _) rfl rfl rfl (Nat.le_of_ble_eq_true rfl) dL_law_213 hR (by rw [g5]; rfl) (fun r1 σ1 e1 => ?_)
  cases e1
  refine q_toM ?_
  have CM := qC_M C σ'
  refine q_aload_n CM dL_law_216 rfl 2 rfl ?_
  refine q_arg CM (a1 := 0) (a2 := 0) hX (K := 1) 1 hi (by decide) rfl rfl rfl dL_law_217 dL_law_218 dL_law_219 (by decide) dL_law_220 dL_law_221 ?_
  refine q_callVi CM (rm := rmX6_back) (As := [.int (xs (i + 1))]) (rest := [.int r]) (id := 0) (ci := 6) (f := fun r σ => some (r, σ)) (o := (r, μ')) (fun r9 σ9 h9 => kX6_back l D adM cy _ A zs μ (xs (i + 1)) r9 σ9 h9) gL_law_X6_back rfl rfl rfl hyX6_back ⟨Nat.le_of_ble_eq_true rfl, Nat.le_of_ble_eq_true rfl⟩ (by decide) (ceM_0 adM cy _ _ _) rfl rfl rfl (Nat.le_of_ble_eq_true rfl) dL_law_222 hR (by rw [g6]; rfl) (fun r1 σ1 e1 => ?_)
  cases e1
  refine q_toC ?_
  have C2 := qC_C C μ'
  refine q_icmp_eq C2 (tgt := 1046) (ft := some ()) (ff := none) (o := some ()) dL_law_225 (by decide) (if_pos rfl) (fun _ => ?_) (fun h => by cases h)
  exact ih σ' μ' mo la wn fn I2
set_option maxHeartbeats 4000000 in
set_option maxRecDepth 100000 in
theorem lc_read {adC adM : Nat → Nat} {cy : Nat → ClassId} {A : Nat → Prop} {D : va_G} {zs : Nat × Nat × Option Nat} {p : Program} {l : Launch} {e : Env} {s : State} {m : MethodId} {args : Array Value} {below : List Frame} {meth : Method} {c : Code} {b L : Nat} {xs : Nat → Int32} {kc ks : Nat} {Q : State → Prop} {ret : Option FieldType} {σ μ : St} {mo la wn fn i : Nat} (C : qC ceC 96 adC cy (qw ceM 42 adM cy μ) A D zs cL_law 4 RL wsL_law p s m args meth c ret) (hX : lwX A b L xs s) (h6 : i + 6 ≤ L) (hR : kc ≤ room_1.cells ∧ ks ≤ room_1.slots) (I : Inv σ μ mo la wn fn) (ih : ∀ (σ μ : St) (mo la wn fn : Nat), Inv σ μ mo la wn fn → qW ceC 96 adC cy (qw ceM 42 adM cy μ) A D p l e room_1 s m args below meth c 4 kc ks Q 1046 [(0, .ref b), (1, .ref (adC 0)), (2, .ref (adM 0)), (3, .int (nI i))] [] σ) : qW ceC 96 adC cy (qw ceM 42 adM cy μ) A D p l e room_1 s m args below meth c 4 kc ks Q 230 [(0, .ref b), (1, .ref (adC 0)), (2, .ref (adM 0)), (3, .int (nI i))] [] σ := by
  have hi := h6
  obtain ⟨r, σ', μ', g5, g6, I2⟩ := p_read I (xs (i + 1))
  refine q_aload_n C dL_law_230 rfl 1 rfl ?_
  refine q_arg C (a1 := 0) (a2 := 0) hX (K := 1) 1 hi (by decide) rfl rfl rfl dL_law_231 dL_law_232 dL_law_233 (by decide) dL_law_234 dL_law_235 ?_
  refine q_callVi C (rm := rmX5_read) (As := [.int (xs (i + 1))]) (rest := []) (id := 0) (ci := 5) (f := fun r σ => some (r, σ)) (o := (r, σ')) (fun r9 σ9 h9 => kX5_read l D adC cy _ A zs σ (xs (i + 1)) r9 σ9 h9) gL_law_X5_read rfl rfl rfl hyX5_read ⟨Nat.le_of_ble_eq_true rfl, Nat.le_of_ble_eq_true rfl⟩ (by decide) (ceC_0 adC cy _ _ _) rfl rfl rfl (Nat.le_of_ble_eq_true rfl) dL_law_236 hR (by rw [g5]; rfl) (fun r1 σ1 e1 => ?_)
  cases e1
  refine q_toM ?_
  have CM := qC_M C σ'
  refine q_aload_n CM dL_law_239 rfl 2 rfl ?_
  refine q_arg CM (a1 := 0) (a2 := 0) hX (K := 1) 1 hi (by decide) rfl rfl rfl dL_law_240 dL_law_241 dL_law_242 (by decide) dL_law_243 dL_law_244 ?_
  refine q_callVi CM (rm := rmX6_read) (As := [.int (xs (i + 1))]) (rest := [.int r]) (id := 0) (ci := 6) (f := fun r σ => some (r, σ)) (o := (r, μ')) (fun r9 σ9 h9 => kX6_read l D adM cy _ A zs μ (xs (i + 1)) r9 σ9 h9) gL_law_X6_read rfl rfl rfl hyX6_read ⟨Nat.le_of_ble_eq_true rfl, Nat.le_of_ble_eq_true rfl⟩ (by decide) (ceM_0 adM cy _ _ _) rfl rfl rfl (Nat.le_of_ble_eq_true rfl) dL_law_245 hR (by rw [g6]; rfl) (fun r1 σ1 e1 => ?_)
  cases e1
  refine q_toC ?_
  have C2 := qC_C C μ'
  refine q_icmp_eq C2 (tgt := 1046) (ft := some ()) (ff := none) (o := some ()) dL_law_248 (by decide) (if_pos rfl) (fun _ => ?_) (fun h => by cases h)
  exact ih σ' μ' mo la wn fn I2
set_option maxHeartbeats 4000000 in
set_option maxRecDepth 100000 in
theorem lc_place {adC adM : Nat → Nat} {cy : Nat → ClassId} {A : Nat → Prop} {D : va_G} {zs : Nat × Nat × Option Nat} {p : Program} {l : Launch} {e : Env} {s : State} {m : MethodId} {args : Array Value} {below : List Frame} {meth : Method} {c : Code} {b L : Nat} {xs : Nat → Int32} {kc ks : Nat} {Q : State → Prop} {ret : Option FieldType} {σ μ : St} {mo la wn fn i : Nat} (C : qC ceC 96 adC cy (qw ceM 42 adM cy μ) A D zs cL_law 4 RL wsL_law p s m args meth c ret) (hX : lwX A b L xs s) (h6 : i + 6 ≤ L) (hR : kc ≤ room_1.cells ∧ ks ≤ room_1.slots) (I : Inv σ μ mo la wn fn) (ih : ∀ (σ μ : St) (mo la wn fn : Nat), Inv σ μ mo la wn fn → qW ceC 96 adC cy (qw ceM 42 adM cy μ) A D p l e room_1 s m args below meth c 4 kc ks Q 1046 [(0, .ref b), (1, .ref (adC 0)), (2, .ref (adM 0)), (3, .int (nI i))] [] σ) : qW ceC 96 adC cy (qw ceM 42 adM cy μ) A D p l e room_1 s m args below meth c 4 kc ks Q 253 [(0, .ref b), (1, .ref (adC 0)), (2, .ref (adM 0)), (3, .int (nI i))] [] σ := by
  have hi := h6
  obtain ⟨r, g5, g6⟩ := p_place I
  refine q_aload_n C dL_law_253 rfl 1 rfl ?_
  refine q_callVi C (rm := rmX5_place) (As := []) (rest := []) (id := 0) (ci := 5) (f := fun r σ => some (r, σ)) (o := (r, σ)) (fun r9 σ9 h9 => kX5_place l D adC cy _ A zs σ r9 σ9 h9) gL_law_X5_place rfl rfl rfl hyX5_place ⟨Nat.le_of_ble_eq_true rfl, Nat.le_of_ble_eq_true rfl⟩ (by decide) (ceC_0 adC cy _ _ _) rfl rfl rfl (Nat.le_of_ble_eq_true rfl) dL_law_254 hR (by rw [g5]; rfl) (fun r1 σ1 e1 => ?_)
  cases e1
  refine q_toM ?_
  have CM := qC_M C σ
  refine q_aload_n CM dL_law_257 rfl 2 rfl ?_
  refine q_callVi CM (rm := rmX6_place) (As := []) (rest := [.int r]) (id := 0) (ci := 6) (f := fun r σ => some (r, σ)) (o := (r, μ)) (fun r9 σ9 h9 => kX6_place l D adM cy _ A zs μ r9 σ9 h9) gL_law_X6_place rfl rfl rfl hyX6_place ⟨Nat.le_of_ble_eq_true rfl, Nat.le_of_ble_eq_true rfl⟩ (by decide) (ceM_0 adM cy _ _ _) rfl rfl rfl (Nat.le_of_ble_eq_true rfl) dL_law_258 hR (by rw [g6]; rfl) (fun r1 σ1 e1 => ?_)
  cases e1
  refine q_toC ?_
  have C2 := qC_C C μ
  refine q_icmp_eq C2 (tgt := 1046) (ft := some ()) (ff := none) (o := some ()) dL_law_261 (by decide) (if_pos rfl) (fun _ => ?_) (fun h => by cases h)
  exact ih σ μ mo la wn fn I
set_option maxHeartbeats 4000000 in
set_option maxRecDepth 100000 in
theorem lc_moon {adC adM : Nat → Nat} {cy : Nat → ClassId} {A : Nat → Prop} {D : va_G} {zs : Nat × Nat × Option Nat} {p : Program} {l : Launch} {e : Env} {s : State} {m : MethodId} {args : Array Value} {below : List Frame} {meth : Method} {c : Code} {b L : Nat} {xs : Nat → Int32} {kc ks : Nat} {Q : State → Prop} {ret : Option FieldType} {σ μ : St} {mo la wn fn i : Nat} (C : qC ceC 96 adC cy (qw ceM 42 adM cy μ) A D zs cL_law 4 RL wsL_law p s m args meth c ret) (hX : lwX A b L xs s) (h6 : i + 6 ≤ L) (hR : kc ≤ room_1.cells ∧ ks ≤ room_1.slots) (I : Inv σ μ mo la wn fn) (ih : ∀ (σ μ : St) (mo la wn fn : Nat), Inv σ μ mo la wn fn → qW ceC 96 adC cy (qw ceM 42 adM cy μ) A D p l e room_1 s m args below meth c 4 kc ks Q 1046 [(0, .ref b), (1, .ref (adC 0)), (2, .ref (adM 0)), (3, .int (nI i))] [] σ) : qW ceC 96 adC cy (qw ceM 42 adM cy μ) A D p l e room_1 s m args below meth c 4 kc ks Q 266 [(0, .ref b), (1, .ref (adC 0)), (2, .ref (adM 0)), (3, .int (nI i))] [] σ := by
  have hi := h6
  obtain ⟨mo', r, σ', μ', g5, g6, I2⟩ := p_moon I (xs (i + 1))
  refine q_aload_n C dL_law_266 rfl 1 rfl ?_
  refine q_arg C (a1 := 0) (a2 := 0) hX (K := 1) 1 hi (by decide) rfl rfl rfl dL_law_267 dL_law_268 dL_law_269 (by decide) dL_law_270 dL_law_271 ?_
  refine q_callVi C (rm := rmX5_moon) (As := [.int (xs (i + 1))]) (rest := []) (id := 0) (ci := 5) (f := fun r σ => some (r, σ)) (o := (r, σ')) (fun r9 σ9 h9 => kX5_moon l D adC cy _ A zs σ (xs (i + 1)) r9 σ9 h9) gL_law_X5_moon rfl rfl rfl hyX5_moon ⟨Nat.le_of_ble_eq_true rfl, Nat.le_of_ble_eq_true rfl⟩ (by decide) (ceC_0 adC cy _ _ _) rfl rfl rfl (Nat.le_of_ble_eq_true rfl) dL_law_272 hR (by rw [g5]; rfl) (fun r1 σ1 e1 => ?_)
  cases e1
  refine q_toM ?_
  have CM := qC_M C σ'
  refine q_aload_n CM dL_law_275 rfl 2 rfl ?_
  refine q_arg CM (a1 := 0) (a2 := 0) hX (K := 1) 1 hi (by decide) rfl rfl rfl dL_law_276 dL_law_277 dL_law_278 (by decide) dL_law_279 dL_law_280 ?_
  refine q_callVi CM (rm := rmX6_moon) (As := [.int (xs (i + 1))]) (rest := [.int r]) (id := 0) (ci := 6) (f := fun r σ => some (r, σ)) (o := (r, μ')) (fun r9 σ9 h9 => kX6_moon l D adM cy _ A zs μ (xs (i + 1)) r9 σ9 h9) gL_law_X6_moon rfl rfl rfl hyX6_moon ⟨Nat.le_of_ble_eq_true rfl, Nat.le_of_ble_eq_true rfl⟩ (by decide) (ceM_0 adM cy _ _ _) rfl rfl rfl (Nat.le_of_ble_eq_true rfl) dL_law_281 hR (by rw [g6]; rfl) (fun r1 σ1 e1 => ?_)
  cases e1
  refine q_toC ?_
  have C2 := qC_C C μ'
  refine q_icmp_eq C2 (tgt := 1046) (ft := some ()) (ff := none) (o := some ()) dL_law_284 (by decide) (if_pos rfl) (fun _ => ?_) (fun h => by cases h)
  exact ih σ' μ' mo' la wn fn I2
set_option maxHeartbeats 4000000 in
set_option maxRecDepth 100000 in
theorem lc_land {adC adM : Nat → Nat} {cy : Nat → ClassId} {A : Nat → Prop} {D : va_G} {zs : Nat × Nat × Option Nat} {p : Program} {l : Launch} {e : Env} {s : State} {m : MethodId} {args : Array Value} {below : List Frame} {meth : Method} {c : Code} {b L : Nat} {xs : Nat → Int32} {kc ks : Nat} {Q : State → Prop} {ret : Option FieldType} {σ μ : St} {mo la wn fn i : Nat} (C : qC ceC 96 adC cy (qw ceM 42 adM cy μ) A D zs cL_law 4 RL wsL_law p s m args meth c ret) (hX : lwX A b L xs s) (h6 : i + 6 ≤ L) (hR : kc ≤ room_1.cells ∧ ks ≤ room_1.slots) (I : Inv σ μ mo la wn fn) (ih : ∀ (σ μ : St) (mo la wn fn : Nat), Inv σ μ mo la wn fn → qW ceC 96 adC cy (qw ceM 42 adM cy μ) A D p l e room_1 s m args below meth c 4 kc ks Q 1046 [(0, .ref b), (1, .ref (adC 0)), (2, .ref (adM 0)), (3, .int (nI i))] [] σ) : qW ceC 96 adC cy (qw ceM 42 adM cy μ) A D p l e room_1 s m args below meth c 4 kc ks Q 289 [(0, .ref b), (1, .ref (adC 0)), (2, .ref (adM 0)), (3, .int (nI i))] [] σ := by
  have hi := h6
  obtain ⟨la', r, σ', μ', g5, g6, I2⟩ := p_land I (xs (i + 1)) (xs (i + 2))
  refine q_aload_n C dL_law_289 rfl 1 rfl ?_
  refine q_arg C (a1 := 0) (a2 := 0) hX (K := 1) 1 hi (by decide) rfl rfl rfl dL_law_290 dL_law_291 dL_law_292 (by decide) dL_law_293 dL_law_294 ?_
  refine q_arg C (a1 := 0) (a2 := 0) hX (K := 2) 2 hi (by decide) rfl rfl rfl dL_law_295 dL_law_296 dL_law_297 (by decide) dL_law_298 dL_law_299 ?_
  refine q_callVi C (rm := rmX5_land) (As := [.int (xs (i + 1)), .int (xs (i + 2))]) (rest := []) (id := 0) (ci := 5) (f := fun r σ => some (r, σ)) (o := (r, σ')) (fun r9 σ9 h9 => kX5_land l D adC cy _ A zs σ (xs (i + 1)) (xs (i + 2)) r9 σ9 h9) gL_law_X5_land rfl rfl rfl hyX5_land ⟨Nat.le_of_ble_eq_true rfl, Nat.le_of_ble_eq_true rfl⟩ (by decide) (ceC_0 adC cy _ _ _) rfl rfl rfl (Nat.le_of_ble_eq_true rfl) dL_law_300 hR (by rw [g5]; rfl) (fun r1 σ1 e1 => ?_)
  cases e1
  refine q_toM ?_
  have CM := qC_M C σ'
  refine q_aload_n CM dL_law_303 rfl 2 rfl ?_
  refine q_arg CM (a1 := 0) (a2 := 0) hX (K := 1) 1 hi (by decide) rfl rfl rfl dL_law_304 dL_law_305 dL_law_306 (by decide) dL_law_307 dL_law_308 ?_
  refine q_arg CM (a1 := 0) (a2 := 0) hX (K := 2) 2 hi (by decide) rfl rfl rfl dL_law_309 dL_law_310 dL_law_311 (by decide) dL_law_312 dL_law_313 ?_
  refine q_callVi CM (rm := rmX6_land) (As := [.int (xs (i + 1)), .int (xs (i + 2))]) (rest := [.int r]) (id := 0) (ci := 6) (f := fun r σ => some (r, σ)) (o := (r, μ')) (fun r9 σ9 h9 => kX6_land l D adM cy _ A zs μ (xs (i + 1)) (xs (i + 2)) r9 σ9 h9) gL_law_X6_land rfl rfl rfl hyX6_land ⟨Nat.le_of_ble_eq_true rfl, Nat.le_of_ble_eq_true rfl⟩ (by decide) (ceM_0 adM cy _ _ _) rfl rfl rfl (Nat.le_of_ble_eq_true rfl) dL_law_314 hR (by rw [g6]; rfl) (fun r1 σ1 e1 => ?_)
  cases e1
  refine q_toC ?_
  have C2 := qC_C C μ'
  refine q_icmp_eq C2 (tgt := 1046) (ft := some ()) (ff := none) (o := some ()) dL_law_317 (by decide) (if_pos rfl) (fun _ => ?_) (fun h => by cases h)
  exact ih σ' μ' mo la' wn fn I2
set_option maxHeartbeats 4000000 in
set_option maxRecDepth 100000 in
theorem lc_table {adC adM : Nat → Nat} {cy : Nat → ClassId} {A : Nat → Prop} {D : va_G} {zs : Nat × Nat × Option Nat} {p : Program} {l : Launch} {e : Env} {s : State} {m : MethodId} {args : Array Value} {below : List Frame} {meth : Method} {c : Code} {b L : Nat} {xs : Nat → Int32} {kc ks : Nat} {Q : State → Prop} {ret : Option FieldType} {σ μ : St} {mo la wn fn i : Nat} (C : qC ceC 96 adC cy (qw ceM 42 adM cy μ) A D zs cL_law 4 RL wsL_law p s m args meth c ret) (hX : lwX A b L xs s) (h6 : i + 6 ≤ L) (hR : kc ≤ room_1.cells ∧ ks ≤ room_1.slots) (I : Inv σ μ mo la wn fn) (ih : ∀ (σ μ : St) (mo la wn fn : Nat), Inv σ μ mo la wn fn → qW ceC 96 adC cy (qw ceM 42 adM cy μ) A D p l e room_1 s m args below meth c 4 kc ks Q 1046 [(0, .ref b), (1, .ref (adC 0)), (2, .ref (adM 0)), (3, .int (nI i))] [] σ) : qW ceC 96 adC cy (qw ceM 42 adM cy μ) A D p l e room_1 s m args below meth c 4 kc ks Q 322 [(0, .ref b), (1, .ref (adC 0)), (2, .ref (adM 0)), (3, .int (nI i))] [] σ := by
  have hi := h6
  obtain ⟨r, σ', μ', g5, g6, I2⟩ := p_table I (xs (i + 1)) (xs (i + 2))
  refine q_aload_n C dL_law_322 rfl 1 rfl ?_
  refine q_arg C (a1 := 0) (a2 := 0) hX (K := 1) 1 hi (by decide) rfl rfl rfl dL_law_323 dL_law_324 dL_law_325 (by decide) dL_law_326 dL_law_327 ?_
  refine q_arg C (a1 := 0) (a2 := 0) hX (K := 2) 2 hi (by decide) rfl rfl rfl dL_law_328 dL_law_329 dL_law_330 (by decide) dL_law_331 dL_law_332 ?_
  refine q_callVi C (rm := rmX5_table) (As := [.int (xs (i + 1)), .int (xs (i + 2))]) (rest := []) (id := 0) (ci := 5) (f := fun r σ => some (r, σ)) (o := (r, σ')) (fun r9 σ9 h9 => kX5_table l D adC cy _ A zs σ (xs (i + 1)) (xs (i + 2)) r9 σ9 h9) gL_law_X5_table rfl rfl rfl hyX5_table ⟨Nat.le_of_ble_eq_true rfl, Nat.le_of_ble_eq_true rfl⟩ (by decide) (ceC_0 adC cy _ _ _) rfl rfl rfl (Nat.le_of_ble_eq_true rfl) dL_law_333 hR (by rw [g5]; rfl) (fun r1 σ1 e1 => ?_)
  cases e1
  refine q_toM ?_
  have CM := qC_M C σ'
  refine q_aload_n CM dL_law_336 rfl 2 rfl ?_
  refine q_arg CM (a1 := 0) (a2 := 0) hX (K := 1) 1 hi (by decide) rfl rfl rfl dL_law_337 dL_law_338 dL_law_339 (by decide) dL_law_340 dL_law_341 ?_
  refine q_arg CM (a1 := 0) (a2 := 0) hX (K := 2) 2 hi (by decide) rfl rfl rfl dL_law_342 dL_law_343 dL_law_344 (by decide) dL_law_345 dL_law_346 ?_
  refine q_callVi CM (rm := rmX6_table) (As := [.int (xs (i + 1)), .int (xs (i + 2))]) (rest := [.int r]) (id := 0) (ci := 6) (f := fun r σ => some (r, σ)) (o := (r, μ')) (fun r9 σ9 h9 => kX6_table l D adM cy _ A zs μ (xs (i + 1)) (xs (i + 2)) r9 σ9 h9) gL_law_X6_table rfl rfl rfl hyX6_table ⟨Nat.le_of_ble_eq_true rfl, Nat.le_of_ble_eq_true rfl⟩ (by decide) (ceM_0 adM cy _ _ _) rfl rfl rfl (Nat.le_of_ble_eq_true rfl) dL_law_347 hR (by rw [g6]; rfl) (fun r1 σ1 e1 => ?_)
  cases e1
  refine q_toC ?_
  have C2 := qC_C C μ'
  refine q_icmp_eq C2 (tgt := 1046) (ft := some ()) (ff := none) (o := some ()) dL_law_350 (by decide) (if_pos rfl) (fun _ => ?_) (fun h => by cases h)
  exact ih σ' μ' mo la wn fn I2
set_option maxHeartbeats 4000000 in
set_option maxRecDepth 100000 in
theorem lc_cell {adC adM : Nat → Nat} {cy : Nat → ClassId} {A : Nat → Prop} {D : va_G} {zs : Nat × Nat × Option Nat} {p : Program} {l : Launch} {e : Env} {s : State} {m : MethodId} {args : Array Value} {below : List Frame} {meth : Method} {c : Code} {b L : Nat} {xs : Nat → Int32} {kc ks : Nat} {Q : State → Prop} {ret : Option FieldType} {σ μ : St} {mo la wn fn i : Nat} (C : qC ceC 96 adC cy (qw ceM 42 adM cy μ) A D zs cL_law 4 RL wsL_law p s m args meth c ret) (hX : lwX A b L xs s) (h6 : i + 6 ≤ L) (hR : kc ≤ room_1.cells ∧ ks ≤ room_1.slots) (I : Inv σ μ mo la wn fn) (ih : ∀ (σ μ : St) (mo la wn fn : Nat), Inv σ μ mo la wn fn → qW ceC 96 adC cy (qw ceM 42 adM cy μ) A D p l e room_1 s m args below meth c 4 kc ks Q 1046 [(0, .ref b), (1, .ref (adC 0)), (2, .ref (adM 0)), (3, .int (nI i))] [] σ) : qW ceC 96 adC cy (qw ceM 42 adM cy μ) A D p l e room_1 s m args below meth c 4 kc ks Q 355 [(0, .ref b), (1, .ref (adC 0)), (2, .ref (adM 0)), (3, .int (nI i))] [] σ := by
  have hi := h6
  obtain ⟨r, σ', μ', g5, g6, I2⟩ := p_cell I (xs (i + 1)) (xs (i + 2)) (xs (i + 3))
  refine q_aload_n C dL_law_355 rfl 1 rfl ?_
  refine q_arg C (a1 := 0) (a2 := 0) hX (K := 1) 1 hi (by decide) rfl rfl rfl dL_law_356 dL_law_357 dL_law_358 (by decide) dL_law_359 dL_law_360 ?_
  refine q_arg C (a1 := 0) (a2 := 0) hX (K := 2) 2 hi (by decide) rfl rfl rfl dL_law_361 dL_law_362 dL_law_363 (by decide) dL_law_364 dL_law_365 ?_
  refine q_arg C (a1 := 0) (a2 := 0) hX (K := 3) 3 hi (by decide) rfl rfl rfl dL_law_366 dL_law_367 dL_law_368 (by decide) dL_law_369 dL_law_370 ?_
  refine q_callVi C (rm := rmX5_cell) (As := [.int (xs (i + 1)), .int (xs (i + 2)), .int (xs (i + 3))]) (rest := []) (id := 0) (ci := 5) (f := fun r σ => some (r, σ)) (o := (r, σ')) (fun r9 σ9 h9 => kX5_cell l D adC cy _ A zs σ (xs (i + 1)) (xs (i + 2)) (xs (i + 3)) r9 σ9 h9) gL_law_X5_cell rfl rfl rfl hyX5_cell ⟨Nat.le_of_ble_eq_true rfl, Nat.le_of_ble_eq_true rfl⟩ (by decide) (ceC_0 adC cy _ _ _) rfl rfl rfl (Nat.le_of_ble_eq_true rfl) dL_law_371 hR (by rw [g5]; rfl) (fun r1 σ1 e1 => ?_)
  cases e1
  refine q_toM ?_
  have CM := qC_M C σ'
  refine q_aload_n CM dL_law_374 rfl 2 rfl ?_
  refine q_arg CM (a1 := 0) (a2 := 0) hX (K := 1) 1 hi (by decide) rfl rfl rfl dL_law_375 dL_law_376 dL_law_377 (by decide) dL_law_378 dL_law_379 ?_
  refine q_arg CM (a1 := 0) (a2 := 0) hX (K := 2) 2 hi (by decide) rfl rfl rfl dL_law_380 dL_law_381 dL_law_382 (by decide) dL_law_383 dL_law_384 ?_
  refine q_arg CM (a1 := 0) (a2 := 0) hX (K := 3) 3 hi (by decide) rfl rfl rfl dL_law_385 dL_law_386 dL_law_387 (by decide) dL_law_388 dL_law_389 ?_
  refine q_callVi CM (rm := rmX6_cell) (As := [.int (xs (i + 1)), .int (xs (i + 2)), .int (xs (i + 3))]) (rest := [.int r]) (id := 0) (ci := 6) (f := fun r σ => some (r, σ)) (o := (r, μ')) (fun r9 σ9 h9 => kX6_cell l D adM cy _ A zs μ (xs (i + 1)) (xs (i + 2)) (xs (i + 3)) r9 σ9 h9) gL_law_X6_cell rfl rfl rfl hyX6_cell ⟨Nat.le_of_ble_eq_true rfl, Nat.le_of_ble_eq_true rfl⟩ (by decide) (ceM_0 adM cy _ _ _) rfl rfl rfl (Nat.le_of_ble_eq_true rfl) dL_law_390 hR (by rw [g6]; rfl) (fun r1 σ1 e1 => ?_)
  cases e1
  refine q_toC ?_
  have C2 := qC_C C μ'
  refine q_icmp_eq C2 (tgt := 1046) (ft := some ()) (ff := none) (o := some ()) dL_law_393 (by decide) (if_pos rfl) (fun _ => ?_) (fun h => by cases h)
  exact ih σ' μ' mo la wn fn I2
set_option maxHeartbeats 4000000 in
set_option maxRecDepth 100000 in
theorem lc_travel {adC adM : Nat → Nat} {cy : Nat → ClassId} {A : Nat → Prop} {D : va_G} {zs : Nat × Nat × Option Nat} {p : Program} {l : Launch} {e : Env} {s : State} {m : MethodId} {args : Array Value} {below : List Frame} {meth : Method} {c : Code} {b L : Nat} {xs : Nat → Int32} {kc ks : Nat} {Q : State → Prop} {ret : Option FieldType} {σ μ : St} {mo la wn fn i : Nat} (C : qC ceC 96 adC cy (qw ceM 42 adM cy μ) A D zs cL_law 4 RL wsL_law p s m args meth c ret) (hX : lwX A b L xs s) (h6 : i + 6 ≤ L) (hR : kc ≤ room_1.cells ∧ ks ≤ room_1.slots) (I : Inv σ μ mo la wn fn) (ih : ∀ (σ μ : St) (mo la wn fn : Nat), Inv σ μ mo la wn fn → qW ceC 96 adC cy (qw ceM 42 adM cy μ) A D p l e room_1 s m args below meth c 4 kc ks Q 1046 [(0, .ref b), (1, .ref (adC 0)), (2, .ref (adM 0)), (3, .int (nI i))] [] σ) : qW ceC 96 adC cy (qw ceM 42 adM cy μ) A D p l e room_1 s m args below meth c 4 kc ks Q 398 [(0, .ref b), (1, .ref (adC 0)), (2, .ref (adM 0)), (3, .int (nI i))] [] σ := by
  have hi := h6
  obtain ⟨r, σ', μ', g5, g6, I2⟩ := p_travel I (xs (i + 1)) (xs (i + 2)) (xs (i + 3))
  refine q_aload_n C dL_law_398 rfl 1 rfl ?_
  refine q_arg C (a1 := 0) (a2 := 0) hX (K := 1) 1 hi (by decide) rfl rfl rfl dL_law_399 dL_law_400 dL_law_401 (by decide) dL_law_402 dL_law_403 ?_
  refine q_arg C (a1 := 0) (a2 := 0) hX (K := 2) 2 hi (by decide) rfl rfl rfl dL_law_404 dL_law_405 dL_law_406 (by decide) dL_law_407 dL_law_408 ?_
  refine q_arg C (a1 := 0) (a2 := 0) hX (K := 3) 3 hi (by decide) rfl rfl rfl dL_law_409 dL_law_410 dL_law_411 (by decide) dL_law_412 dL_law_413 ?_
  refine q_callVi C (rm := rmX5_travel) (As := [.int (xs (i + 1)), .int (xs (i + 2)), .int (xs (i + 3))]) (rest := []) (id := 0) (ci := 5) (f := fun r σ => some (r, σ)) (o := (r, σ')) (fun r9 σ9 h9 => kX5_travel l D adC cy _ A zs σ (xs (i + 1)) (xs (i + 2)) (xs (i + 3)) r9 σ9 h9) gL_law_X5_travel rfl rfl rfl hyX5_travel ⟨Nat.le_of_ble_eq_true rfl, Nat.le_of_ble_eq_true rfl⟩ (by decide) (ceC_0 adC cy _ _ _) rfl rfl rfl (Nat.le_of_ble_eq_true rfl) dL_law_414 hR (by rw [g5]; rfl) (fun r1 σ1 e1 => ?_)
  cases e1
  refine q_toM ?_
  have CM := qC_M C σ'
  refine q_aload_n CM dL_law_417 rfl 2 rfl ?_
  refine q_arg CM (a1 := 0) (a2 := 0) hX (K := 1) 1 hi (by decide) rfl rfl rfl dL_law_418 dL_law_419 dL_law_420 (by decide) dL_law_421 dL_law_422 ?_
  refine q_arg CM (a1 := 0) (a2 := 0) hX (K := 2) 2 hi (by decide) rfl rfl rfl dL_law_423 dL_law_424 dL_law_425 (by decide) dL_law_426 dL_law_427 ?_
  refine q_arg CM (a1 := 0) (a2 := 0) hX (K := 3) 3 hi (by decide) rfl rfl rfl dL_law_428 dL_law_429 dL_law_430 (by decide) dL_law_431 dL_law_432 ?_
  refine q_callVi CM (rm := rmX6_travel) (As := [.int (xs (i + 1)), .int (xs (i + 2)), .int (xs (i + 3))]) (rest := [.int r]) (id := 0) (ci := 6) (f := fun r σ => some (r, σ)) (o := (r, μ')) (fun r9 σ9 h9 => kX6_travel l D adM cy _ A zs μ (xs (i + 1)) (xs (i + 2)) (xs (i + 3)) r9 σ9 h9) gL_law_X6_travel rfl rfl rfl hyX6_travel ⟨Nat.le_of_ble_eq_true rfl, Nat.le_of_ble_eq_true rfl⟩ (by decide) (ceM_0 adM cy _ _ _) rfl rfl rfl (Nat.le_of_ble_eq_true rfl) dL_law_433 hR (by rw [g6]; rfl) (fun r1 σ1 e1 => ?_)
  cases e1
  refine q_toC ?_
  have C2 := qC_C C μ'
  refine q_icmp_eq C2 (tgt := 1046) (ft := some ()) (ff := none) (o := some ()) dL_law_436 (by decide) (if_pos rfl) (fun _ => ?_) (fun h => by cases h)
  exact ih σ' μ' mo la wn fn I2
set_option maxHeartbeats 4000000 in
set_option maxRecDepth 100000 in
theorem lc_witness {adC adM : Nat → Nat} {cy : Nat → ClassId} {A : Nat → Prop} {D : va_G} {zs : Nat × Nat × Option Nat} {p : Program} {l : Launch} {e : Env} {s : State} {m : MethodId} {args : Array Value} {below : List Frame} {meth : Method} {c : Code} {b L : Nat} {xs : Nat → Int32} {kc ks : Nat} {Q : State → Prop} {ret : Option FieldType} {σ μ : St} {mo la wn fn i : Nat} (C : qC ceC 96 adC cy (qw ceM 42 adM cy μ) A D zs cL_law 4 RL wsL_law p s m args meth c ret) (hX : lwX A b L xs s) (h6 : i + 6 ≤ L) (hR : kc ≤ room_1.cells ∧ ks ≤ room_1.slots) (I : Inv σ μ mo la wn fn) (ih : ∀ (σ μ : St) (mo la wn fn : Nat), Inv σ μ mo la wn fn → qW ceC 96 adC cy (qw ceM 42 adM cy μ) A D p l e room_1 s m args below meth c 4 kc ks Q 1046 [(0, .ref b), (1, .ref (adC 0)), (2, .ref (adM 0)), (3, .int (nI i))] [] σ) : qW ceC 96 adC cy (qw ceM 42 adM cy μ) A D p l e room_1 s m args below meth c 4 kc ks Q 441 [(0, .ref b), (1, .ref (adC 0)), (2, .ref (adM 0)), (3, .int (nI i))] [] σ := by
  have hi := h6
  obtain ⟨wn', r, σ', μ', g5, g6, I2⟩ := p_witness I (xs (i + 1))
  refine q_aload_n C dL_law_441 rfl 1 rfl ?_
  refine q_arg C (a1 := 0) (a2 := 0) hX (K := 1) 1 hi (by decide) rfl rfl rfl dL_law_442 dL_law_443 dL_law_444 (by decide) dL_law_445 dL_law_446 ?_
  refine q_callVi C (rm := rmX5_witness) (As := [.int (xs (i + 1))]) (rest := []) (id := 0) (ci := 5) (f := fun r σ => some (r, σ)) (o := (r, σ')) (fun r9 σ9 h9 => kX5_witness l D adC cy _ A zs σ (xs (i + 1)) r9 σ9 h9) gL_law_X5_witness rfl rfl rfl hyX5_witness ⟨Nat.le_of_ble_eq_true rfl, Nat.le_of_ble_eq_true rfl⟩ (by decide) (ceC_0 adC cy _ _ _) rfl rfl rfl (Nat.le_of_ble_eq_true rfl) dL_law_447 hR (by rw [g5]; rfl) (fun r1 σ1 e1 => ?_)
  cases e1
  refine q_toM ?_
  have CM := qC_M C σ'
  refine q_aload_n CM dL_law_450 rfl 2 rfl ?_
  refine q_arg CM (a1 := 0) (a2 := 0) hX (K := 1) 1 hi (by decide) rfl rfl rfl dL_law_451 dL_law_452 dL_law_453 (by decide) dL_law_454 dL_law_455 ?_
  refine q_callVi CM (rm := rmX6_witness) (As := [.int (xs (i + 1))]) (rest := [.int r]) (id := 0) (ci := 6) (f := fun r σ => some (r, σ)) (o := (r, μ')) (fun r9 σ9 h9 => kX6_witness l D adM cy _ A zs μ (xs (i + 1)) r9 σ9 h9) gL_law_X6_witness rfl rfl rfl hyX6_witness ⟨Nat.le_of_ble_eq_true rfl, Nat.le_of_ble_eq_true rfl⟩ (by decide) (ceM_0 adM cy _ _ _) rfl rfl rfl (Nat.le_of_ble_eq_true rfl) dL_law_456 hR (by rw [g6]; rfl) (fun r1 σ1 e1 => ?_)
  cases e1
  refine q_toC ?_
  have C2 := qC_C C μ'
  refine q_icmp_eq C2 (tgt := 1046) (ft := some ()) (ff := none) (o := some ()) dL_law_459 (by decide) (if_pos rfl) (fun _ => ?_) (fun h => by cases h)
  exact ih σ' μ' mo la wn' fn I2
set_option maxHeartbeats 4000000 in
set_option maxRecDepth 100000 in
theorem lc_report {adC adM : Nat → Nat} {cy : Nat → ClassId} {A : Nat → Prop} {D : va_G} {zs : Nat × Nat × Option Nat} {p : Program} {l : Launch} {e : Env} {s : State} {m : MethodId} {args : Array Value} {below : List Frame} {meth : Method} {c : Code} {b L : Nat} {xs : Nat → Int32} {kc ks : Nat} {Q : State → Prop} {ret : Option FieldType} {σ μ : St} {mo la wn fn i : Nat} (C : qC ceC 96 adC cy (qw ceM 42 adM cy μ) A D zs cL_law 4 RL wsL_law p s m args meth c ret) (hX : lwX A b L xs s) (h6 : i + 6 ≤ L) (hR : kc ≤ room_1.cells ∧ ks ≤ room_1.slots) (I : Inv σ μ mo la wn fn) (ih : ∀ (σ μ : St) (mo la wn fn : Nat), Inv σ μ mo la wn fn → qW ceC 96 adC cy (qw ceM 42 adM cy μ) A D p l e room_1 s m args below meth c 4 kc ks Q 1046 [(0, .ref b), (1, .ref (adC 0)), (2, .ref (adM 0)), (3, .int (nI i))] [] σ) : qW ceC 96 adC cy (qw ceM 42 adM cy μ) A D p l e room_1 s m args below meth c 4 kc ks Q 464 [(0, .ref b), (1, .ref (adC 0)), (2, .ref (adM 0)), (3, .int (nI i))] [] σ := by
  have hi := h6
  obtain ⟨fn', r, σ', μ', g5, g6, I2⟩ := p_report I (xs (i + 1)) (xs (i + 2))
  refine q_aload_n C dL_law_464 rfl 1 rfl ?_
  refine q_arg C (a1 := 0) (a2 := 0) hX (K := 1) 1 hi (by decide) rfl rfl rfl dL_law_465 dL_law_466 dL_law_467 (by decide) dL_law_468 dL_law_469 ?_
  refine q_arg C (a1 := 0) (a2 := 0) hX (K := 2) 2 hi (by decide) rfl rfl rfl dL_law_470 dL_law_471 dL_law_472 (by decide) dL_law_473 dL_law_474 ?_
  refine q_callVi C (rm := rmX5_report) (As := [.int (xs (i + 1)), .int (xs (i + 2))]) (rest := []) (id := 0) (ci := 5) (f := fun r σ => some (r, σ)) (o := (r, σ')) (fun r9 σ9 h9 => kX5_report l D adC cy _ A zs σ (xs (i + 1)) (xs (i + 2)) r9 σ9 h9) gL_law_X5_report rfl rfl rfl hyX5_report ⟨Nat.le_of_ble_eq_true rfl, Nat.le_of_ble_eq_true rfl⟩ (by decide) (ceC_0 adC cy _ _ _) rfl rfl rfl (Nat.le_of_ble_eq_true rfl) dL_law_475 hR (by rw [g5]; rfl) (fun r1 σ1 e1 => ?_)
  cases e1
  refine q_toM ?_
  have CM := qC_M C σ'
  refine q_aload_n CM dL_law_478 rfl 2 rfl ?_
  refine q_arg CM (a1 := 0) (a2 := 0) hX (K := 1) 1 hi (by decide) rfl rfl rfl dL_law_479 dL_law_480 dL_law_481 (by decide) dL_law_482 dL_law_483 ?_
  refine q_arg CM (a1 := 0) (a2 := 0) hX (K := 2) 2 hi (by decide) rfl rfl rfl dL_law_484 dL_law_485 dL_law_486 (by decide) dL_law_487 dL_law_488 ?_
  refine q_callVi CM (rm := rmX6_report) (As := [.int (xs (i + 1)), .int (xs (i + 2))]) (rest := [.int r]) (id := 0) (ci := 6) (f := fun r σ => some (r, σ)) (o := (r, μ')) (fun r9 σ9 h9 => kX6_report l D adM cy _ A zs μ (xs (i + 1)) (xs (i + 2)) r9 σ9 h9) gL_law_X6_report rfl rfl rfl hyX6_report ⟨Nat.le_of_ble_eq_true rfl, Nat.le_of_ble_eq_true rfl⟩ (by decide) (ceM_0 adM cy _ _ _) rfl rfl rfl (Nat.le_of_ble_eq_true rfl) dL_law_489 hR (by rw [g6]; rfl) (fun r1 σ1 e1 => ?_)
  cases e1
  refine q_toC ?_
  have C2 := qC_C C μ'
  refine q_icmp_eq C2 (tgt := 1046) (ft := some ()) (ff := none) (o := some ()) dL_law_492 (by decide) (if_pos rfl) (fun _ => ?_) (fun h => by cases h)
  exact ih σ' μ' mo la wn fn' I2
set_option maxHeartbeats 4000000 in
set_option maxRecDepth 100000 in
theorem lc_cloud {adC adM : Nat → Nat} {cy : Nat → ClassId} {A : Nat → Prop} {D : va_G} {zs : Nat × Nat × Option Nat} {p : Program} {l : Launch} {e : Env} {s : State} {m : MethodId} {args : Array Value} {below : List Frame} {meth : Method} {c : Code} {b L : Nat} {xs : Nat → Int32} {kc ks : Nat} {Q : State → Prop} {ret : Option FieldType} {σ μ : St} {mo la wn fn i : Nat} (C : qC ceC 96 adC cy (qw ceM 42 adM cy μ) A D zs cL_law 4 RL wsL_law p s m args meth c ret) (hX : lwX A b L xs s) (h6 : i + 6 ≤ L) (hR : kc ≤ room_1.cells ∧ ks ≤ room_1.slots) (I : Inv σ μ mo la wn fn) (ih : ∀ (σ μ : St) (mo la wn fn : Nat), Inv σ μ mo la wn fn → qW ceC 96 adC cy (qw ceM 42 adM cy μ) A D p l e room_1 s m args below meth c 4 kc ks Q 1046 [(0, .ref b), (1, .ref (adC 0)), (2, .ref (adM 0)), (3, .int (nI i))] [] σ) : qW ceC 96 adC cy (qw ceM 42 adM cy μ) A D p l e room_1 s m args below meth c 4 kc ks Q 497 [(0, .ref b), (1, .ref (adC 0)), (2, .ref (adM 0)), (3, .int (nI i))] [] σ := by
  have hi := h6
  obtain ⟨fn', r, σ', μ', g5, g6, I2⟩ := p_cloud I (xs (i + 1)) (xs (i + 2))
  refine q_aload_n C dL_law_497 rfl 1 rfl ?_
  refine q_arg C (a1 := 0) (a2 := 0) hX (K := 1) 1 hi (by decide) rfl rfl rfl dL_law_498 dL_law_499 dL_law_500 (by decide) dL_law_501 dL_law_502 ?_
  refine q_arg C (a1 := 0) (a2 := 0) hX (K := 2) 2 hi (by decide) rfl rfl rfl dL_law_503 dL_law_504 dL_law_505 (by decide) dL_law_506 dL_law_507 ?_
  refine q_callVi C (rm := rmX5_cloud) (As := [.int (xs (i + 1)), .int (xs (i + 2))]) (rest := []) (id := 0) (ci := 5) (f := fun r σ => some (r, σ)) (o := (r, σ')) (fun r9 σ9 h9 => kX5_cloud l D adC cy _ A zs σ (xs (i + 1)) (xs (i + 2)) r9 σ9 h9) gL_law_X5_cloud rfl rfl rfl hyX5_cloud ⟨Nat.le_of_ble_eq_true rfl, Nat.le_of_ble_eq_true rfl⟩ (by decide) (ceC_0 adC cy _ _ _) rfl rfl rfl (Nat.le_of_ble_eq_true rfl) dL_law_508 hR (by rw [g5]; rfl) (fun r1 σ1 e1 => ?_)
  cases e1
  refine q_toM ?_
  have CM := qC_M C σ'
  refine q_aload_n CM dL_law_511 rfl 2 rfl ?_
  refine q_arg CM (a1 := 0) (a2 := 0) hX (K := 1) 1 hi (by decide) rfl rfl rfl dL_law_512 dL_law_513 dL_law_514 (by decide) dL_law_515 dL_law_516 ?_
  refine q_arg CM (a1 := 0) (a2 := 0) hX (K := 2) 2 hi (by decide) rfl rfl rfl dL_law_517 dL_law_518 dL_law_519 (by decide) dL_law_520 dL_law_521 ?_
  refine q_callVi CM (rm := rmX6_cloud) (As := [.int (xs (i + 1)), .int (xs (i + 2))]) (rest := [.int r]) (id := 0) (ci := 6) (f := fun r σ => some (r, σ)) (o := (r, μ')) (fun r9 σ9 h9 => kX6_cloud l D adM cy _ A zs μ (xs (i + 1)) (xs (i + 2)) r9 σ9 h9) gL_law_X6_cloud rfl rfl rfl hyX6_cloud ⟨Nat.le_of_ble_eq_true rfl, Nat.le_of_ble_eq_true rfl⟩ (by decide) (ceM_0 adM cy _ _ _) rfl rfl rfl (Nat.le_of_ble_eq_true rfl) dL_law_522 hR (by rw [g6]; rfl) (fun r1 σ1 e1 => ?_)
  cases e1
  refine q_toC ?_
  have C2 := qC_C C μ'
  refine q_icmp_eq C2 (tgt := 1046) (ft := some ()) (ff := none) (o := some ()) dL_law_525 (by decide) (if_pos rfl) (fun _ => ?_) (fun h => by cases h)
  exact ih σ' μ' mo la wn fn' I2
set_option maxHeartbeats 4000000 in
set_option maxRecDepth 100000 in
theorem lc_age {adC adM : Nat → Nat} {cy : Nat → ClassId} {A : Nat → Prop} {D : va_G} {zs : Nat × Nat × Option Nat} {p : Program} {l : Launch} {e : Env} {s : State} {m : MethodId} {args : Array Value} {below : List Frame} {meth : Method} {c : Code} {b L : Nat} {xs : Nat → Int32} {kc ks : Nat} {Q : State → Prop} {ret : Option FieldType} {σ μ : St} {mo la wn fn i : Nat} (C : qC ceC 96 adC cy (qw ceM 42 adM cy μ) A D zs cL_law 4 RL wsL_law p s m args meth c ret) (hX : lwX A b L xs s) (h6 : i + 6 ≤ L) (hR : kc ≤ room_1.cells ∧ ks ≤ room_1.slots) (I : Inv σ μ mo la wn fn) (ih : ∀ (σ μ : St) (mo la wn fn : Nat), Inv σ μ mo la wn fn → qW ceC 96 adC cy (qw ceM 42 adM cy μ) A D p l e room_1 s m args below meth c 4 kc ks Q 1046 [(0, .ref b), (1, .ref (adC 0)), (2, .ref (adM 0)), (3, .int (nI i))] [] σ) : qW ceC 96 adC cy (qw ceM 42 adM cy μ) A D p l e room_1 s m args below meth c 4 kc ks Q 530 [(0, .ref b), (1, .ref (adC 0)), (2, .ref (adM 0)), (3, .int (nI i))] [] σ := by
  have hi := h6
  obtain ⟨r, g5, g6⟩ := p_age I (xs (i + 1)) (xs (i + 2))
  refine q_aload_n C dL_law_530 rfl 1 rfl ?_
  refine q_arg C (a1 := 0) (a2 := 0) hX (K := 1) 1 hi (by decide) rfl rfl rfl dL_law_531 dL_law_532 dL_law_533 (by decide) dL_law_534 dL_law_535 ?_
  refine q_arg C (a1 := 0) (a2 := 0) hX (K := 2) 2 hi (by decide) rfl rfl rfl dL_law_536 dL_law_537 dL_law_538 (by decide) dL_law_539 dL_law_540 ?_
  refine q_callVi C (rm := rmX5_age) (As := [.int (xs (i + 1)), .int (xs (i + 2))]) (rest := []) (id := 0) (ci := 5) (f := fun r σ => some (r, σ)) (o := (r, σ)) (fun r9 σ9 h9 => kX5_age l D adC cy _ A zs σ (xs (i + 1)) (xs (i + 2)) r9 σ9 h9) gL_law_X5_age rfl rfl rfl hyX5_age ⟨Nat.le_of_ble_eq_true rfl, Nat.le_of_ble_eq_true rfl⟩ (by decide) (ceC_0 adC cy _ _ _) rfl rfl rfl (Nat.le_of_ble_eq_true rfl) dL_law_541 hR (by rw [g5]; rfl) (fun r1 σ1 e1 => ?_)
  cases e1
  refine q_toM ?_
  have CM := qC_M C σ
  refine q_aload_n CM dL_law_544 rfl 2 rfl ?_
  refine q_arg CM (a1 := 0) (a2 := 0) hX (K := 1) 1 hi (by decide) rfl rfl rfl dL_law_545 dL_law_546 dL_law_547 (by decide) dL_law_548 dL_law_549 ?_
  refine q_arg CM (a1 := 0) (a2 := 0) hX (K := 2) 2 hi (by decide) rfl rfl rfl dL_law_550 dL_law_551 dL_law_552 (by decide) dL_law_553 dL_law_554 ?_
  refine q_callVi CM (rm := rmX6_age) (As := [.int (xs (i + 1)), .int (xs (i + 2))]) (rest := [.int r]) (id := 0) (ci := 6) (f := fun r σ => some (r, σ)) (o := (r, μ)) (fun r9 σ9 h9 => kX6_age l D adM cy _ A zs μ (xs (i + 1)) (xs (i + 2)) r9 σ9 h9) gL_law_X6_age rfl rfl rfl hyX6_age ⟨Nat.le_of_ble_eq_true rfl, Nat.le_of_ble_eq_true rfl⟩ (by decide) (ceM_0 adM cy _ _ _) rfl rfl rfl (Nat.le_of_ble_eq_true rfl) dL_law_555 hR (by rw [g6]; rfl) (fun r1 σ1 e1 => ?_)
  cases e1
  refine q_toC ?_
  have C2 := qC_C C μ
  refine q_icmp_eq C2 (tgt := 1046) (ft := some ()) (ff := none) (o := some ()) dL_law_558 (by decide) (if_pos rfl) (fun _ => ?_) (fun h => by cases h)
  exact ih σ μ mo la wn fn I
set_option maxHeartbeats 4000000 in
set_option maxRecDepth 100000 in
theorem lc_light {adC adM : Nat → Nat} {cy : Nat → ClassId} {A : Nat → Prop} {D : va_G} {zs : Nat × Nat × Option Nat} {p : Program} {l : Launch} {e : Env} {s : State} {m : MethodId} {args : Array Value} {below : List Frame} {meth : Method} {c : Code} {b L : Nat} {xs : Nat → Int32} {kc ks : Nat} {Q : State → Prop} {ret : Option FieldType} {σ μ : St} {mo la wn fn i : Nat} (C : qC ceC 96 adC cy (qw ceM 42 adM cy μ) A D zs cL_law 4 RL wsL_law p s m args meth c ret) (hX : lwX A b L xs s) (h6 : i + 6 ≤ L) (hR : kc ≤ room_1.cells ∧ ks ≤ room_1.slots) (I : Inv σ μ mo la wn fn) (ih : ∀ (σ μ : St) (mo la wn fn : Nat), Inv σ μ mo la wn fn → qW ceC 96 adC cy (qw ceM 42 adM cy μ) A D p l e room_1 s m args below meth c 4 kc ks Q 1046 [(0, .ref b), (1, .ref (adC 0)), (2, .ref (adM 0)), (3, .int (nI i))] [] σ) : qW ceC 96 adC cy (qw ceM 42 adM cy μ) A D p l e room_1 s m args below meth c 4 kc ks Q 563 [(0, .ref b), (1, .ref (adC 0)), (2, .ref (adM 0)), (3, .int (nI i))] [] σ := by
  have hi := h6
  obtain ⟨r, g5, g6⟩ := p_light I (xs (i + 1)) (xs (i + 2))
  refine q_aload_n C dL_law_563 rfl 1 rfl ?_
  refine q_arg C (a1 := 0) (a2 := 0) hX (K := 1) 1 hi (by decide) rfl rfl rfl dL_law_564 dL_law_565 dL_law_566 (by decide) dL_law_567 dL_law_568 ?_
  refine q_arg C (a1 := 0) (a2 := 0) hX (K := 2) 2 hi (by decide) rfl rfl rfl dL_law_569 dL_law_570 dL_law_571 (by decide) dL_law_572 dL_law_573 ?_
  refine q_callVi C (rm := rmX5_light) (As := [.int (xs (i + 1)), .int (xs (i + 2))]) (rest := []) (id := 0) (ci := 5) (f := fun r σ => some (r, σ)) (o := (r, σ)) (fun r9 σ9 h9 => kX5_light l D adC cy _ A zs σ (xs (i + 1)) (xs (i + 2)) r9 σ9 h9) gL_law_X5_light rfl rfl rfl hyX5_light ⟨Nat.le_of_ble_eq_true rfl, Nat.le_of_ble_eq_true rfl⟩ (by decide) (ceC_0 adC cy _ _ _) rfl rfl rfl (Nat.le_of_ble_eq_true rfl) dL_law_574 hR (by rw [g5]; rfl) (fun r1 σ1 e1 => ?_)
  cases e1
  refine q_toM ?_
  have CM := qC_M C σ
  refine q_aload_n CM dL_law_577 rfl 2 rfl ?_
  refine q_arg CM (a1 := 0) (a2 := 0) hX (K := 1) 1 hi (by decide) rfl rfl rfl dL_law_578 dL_law_579 dL_law_580 (by decide) dL_law_581 dL_law_582 ?_
  refine q_arg CM (a1 := 0) (a2 := 0) hX (K := 2) 2 hi (by decide) rfl rfl rfl dL_law_583 dL_law_584 dL_law_585 (by decide) dL_law_586 dL_law_587 ?_
  refine q_callVi CM (rm := rmX6_light) (As := [.int (xs (i + 1)), .int (xs (i + 2))]) (rest := [.int r]) (id := 0) (ci := 6) (f := fun r σ => some (r, σ)) (o := (r, μ)) (fun r9 σ9 h9 => kX6_light l D adM cy _ A zs μ (xs (i + 1)) (xs (i + 2)) r9 σ9 h9) gL_law_X6_light rfl rfl rfl hyX6_light ⟨Nat.le_of_ble_eq_true rfl, Nat.le_of_ble_eq_true rfl⟩ (by decide) (ceM_0 adM cy _ _ _) rfl rfl rfl (Nat.le_of_ble_eq_true rfl) dL_law_588 hR (by rw [g6]; rfl) (fun r1 σ1 e1 => ?_)
  cases e1
  refine q_toC ?_
  have C2 := qC_C C μ
  refine q_icmp_eq C2 (tgt := 1046) (ft := some ()) (ff := none) (o := some ()) dL_law_591 (by decide) (if_pos rfl) (fun _ => ?_) (fun h => by cases h)
  exact ih σ μ mo la wn fn I
set_option maxHeartbeats 4000000 in
set_option maxRecDepth 100000 in
theorem lc_verdict {adC adM : Nat → Nat} {cy : Nat → ClassId} {A : Nat → Prop} {D : va_G} {zs : Nat × Nat × Option Nat} {p : Program} {l : Launch} {e : Env} {s : State} {m : MethodId} {args : Array Value} {below : List Frame} {meth : Method} {c : Code} {b L : Nat} {xs : Nat → Int32} {kc ks : Nat} {Q : State → Prop} {ret : Option FieldType} {σ μ : St} {mo la wn fn i : Nat} (C : qC ceC 96 adC cy (qw ceM 42 adM cy μ) A D zs cL_law 4 RL wsL_law p s m args meth c ret) (hX : lwX A b L xs s) (h6 : i + 6 ≤ L) (hR : kc ≤ room_1.cells ∧ ks ≤ room_1.slots) (I : Inv σ μ mo la wn fn) (ih : ∀ (σ μ : St) (mo la wn fn : Nat), Inv σ μ mo la wn fn → qW ceC 96 adC cy (qw ceM 42 adM cy μ) A D p l e room_1 s m args below meth c 4 kc ks Q 1046 [(0, .ref b), (1, .ref (adC 0)), (2, .ref (adM 0)), (3, .int (nI i))] [] σ) : qW ceC 96 adC cy (qw ceM 42 adM cy μ) A D p l e room_1 s m args below meth c 4 kc ks Q 596 [(0, .ref b), (1, .ref (adC 0)), (2, .ref (adM 0)), (3, .int (nI i))] [] σ := by
  have hi := h6
  obtain ⟨r, σ', g5, g6, I2⟩ := p_verdict I (xs (i + 1)) (xs (i + 2))
  refine q_aload_n C dL_law_596 rfl 1 rfl ?_
  refine q_arg C (a1 := 0) (a2 := 0) hX (K := 1) 1 hi (by decide) rfl rfl rfl dL_law_597 dL_law_598 dL_law_599 (by decide) dL_law_600 dL_law_601 ?_
  refine q_arg C (a1 := 0) (a2 := 0) hX (K := 2) 2 hi (by decide) rfl rfl rfl dL_law_602 dL_law_603 dL_law_604 (by decide) dL_law_605 dL_law_606 ?_
  refine q_callVi C (rm := rmX5_verdict) (As := [.int (xs (i + 1)), .int (xs (i + 2))]) (rest := []) (id := 0) (ci := 5) (f := fun r σ => some (r, σ)) (o := (r, σ')) (fun r9 σ9 h9 => kX5_verdict l D adC cy _ A zs σ (xs (i + 1)) (xs (i + 2)) r9 σ9 h9) gL_law_X5_verdict rfl rfl rfl hyX5_verdict ⟨Nat.le_of_ble_eq_true rfl, Nat.le_of_ble_eq_true rfl⟩ (by decide) (ceC_0 adC cy _ _ _) rfl rfl rfl (Nat.le_of_ble_eq_true rfl) dL_law_607 hR (by rw [g5]; rfl) (fun r1 σ1 e1 => ?_)
  cases e1
  refine q_toM ?_
  have CM := qC_M C σ'
  refine q_aload_n CM dL_law_610 rfl 2 rfl ?_
  refine q_arg CM (a1 := 0) (a2 := 0) hX (K := 1) 1 hi (by decide) rfl rfl rfl dL_law_611 dL_law_612 dL_law_613 (by decide) dL_law_614 dL_law_615 ?_
  refine q_arg CM (a1 := 0) (a2 := 0) hX (K := 2) 2 hi (by decide) rfl rfl rfl dL_law_616 dL_law_617 dL_law_618 (by decide) dL_law_619 dL_law_620 ?_
  refine q_callVi CM (rm := rmX6_verdict) (As := [.int (xs (i + 1)), .int (xs (i + 2))]) (rest := [.int r]) (id := 0) (ci := 6) (f := fun r σ => some (r, σ)) (o := (r, μ)) (fun r9 σ9 h9 => kX6_verdict l D adM cy _ A zs μ (xs (i + 1)) (xs (i + 2)) r9 σ9 h9) gL_law_X6_verdict rfl rfl rfl hyX6_verdict ⟨Nat.le_of_ble_eq_true rfl, Nat.le_of_ble_eq_true rfl⟩ (by decide) (ceM_0 adM cy _ _ _) rfl rfl rfl (Nat.le_of_ble_eq_true rfl) dL_law_621 hR (by rw [g6]; rfl) (fun r1 σ1 e1 => ?_)
  cases e1
  refine q_toC ?_
  have C2 := qC_C C μ
  refine q_icmp_eq C2 (tgt := 1046) (ft := some ()) (ff := none) (o := some ()) dL_law_624 (by decide) (if_pos rfl) (fun _ => ?_) (fun h => by cases h)
  exact ih σ' μ mo la wn fn I2
set_option maxHeartbeats 4000000 in
set_option maxRecDepth 100000 in
theorem lc_worth {adC adM : Nat → Nat} {cy : Nat → ClassId} {A : Nat → Prop} {D : va_G} {zs : Nat × Nat × Option Nat} {p : Program} {l : Launch} {e : Env} {s : State} {m : MethodId} {args : Array Value} {below : List Frame} {meth : Method} {c : Code} {b L : Nat} {xs : Nat → Int32} {kc ks : Nat} {Q : State → Prop} {ret : Option FieldType} {σ μ : St} {mo la wn fn i : Nat} (C : qC ceC 96 adC cy (qw ceM 42 adM cy μ) A D zs cL_law 4 RL wsL_law p s m args meth c ret) (hX : lwX A b L xs s) (h6 : i + 6 ≤ L) (hR : kc ≤ room_1.cells ∧ ks ≤ room_1.slots) (I : Inv σ μ mo la wn fn) (ih : ∀ (σ μ : St) (mo la wn fn : Nat), Inv σ μ mo la wn fn → qW ceC 96 adC cy (qw ceM 42 adM cy μ) A D p l e room_1 s m args below meth c 4 kc ks Q 1046 [(0, .ref b), (1, .ref (adC 0)), (2, .ref (adM 0)), (3, .int (nI i))] [] σ) : qW ceC 96 adC cy (qw ceM 42 adM cy μ) A D p l e room_1 s m args below meth c 4 kc ks Q 629 [(0, .ref b), (1, .ref (adC 0)), (2, .ref (adM 0)), (3, .int (nI i))] [] σ := by
  have hi := h6
  obtain ⟨r, σ', g5, g6, I2⟩ := p_worth I (xs (i + 1)) (xs (i + 2)) (xs (i + 3))
  refine q_aload_n C dL_law_629 rfl 1 rfl ?_
  refine q_arg C (a1 := 0) (a2 := 0) hX (K := 1) 1 hi (by decide) rfl rfl rfl dL_law_630 dL_law_631 dL_law_632 (by decide) dL_law_633 dL_law_634 ?_
  refine q_arg C (a1 := 0) (a2 := 0) hX (K := 2) 2 hi (by decide) rfl rfl rfl dL_law_635 dL_law_636 dL_law_637 (by decide) dL_law_638 dL_law_639 ?_
  refine q_arg C (a1 := 0) (a2 := 0) hX (K := 3) 3 hi (by decide) rfl rfl rfl dL_law_640 dL_law_641 dL_law_642 (by decide) dL_law_643 dL_law_644 ?_
  refine q_callVi C (rm := rmX5_worth) (As := [.int (xs (i + 1)), .int (xs (i + 2)), .int (xs (i + 3))]) (rest := []) (id := 0) (ci := 5) (f := fun r σ => some (r, σ)) (o := (r, σ')) (fun r9 σ9 h9 => kX5_worth l D adC cy _ A zs σ (xs (i + 1)) (xs (i + 2)) (xs (i + 3)) r9 σ9 h9) gL_law_X5_worth rfl rfl rfl hyX5_worth ⟨Nat.le_of_ble_eq_true rfl, Nat.le_of_ble_eq_true rfl⟩ (by decide) (ceC_0 adC cy _ _ _) rfl rfl rfl (Nat.le_of_ble_eq_true rfl) dL_law_645 hR (by rw [g5]; rfl) (fun r1 σ1 e1 => ?_)
  cases e1
  refine q_toM ?_
  have CM := qC_M C σ'
  refine q_aload_n CM dL_law_648 rfl 2 rfl ?_
  refine q_arg CM (a1 := 0) (a2 := 0) hX (K := 1) 1 hi (by decide) rfl rfl rfl dL_law_649 dL_law_650 dL_law_651 (by decide) dL_law_652 dL_law_653 ?_
  refine q_arg CM (a1 := 0) (a2 := 0) hX (K := 2) 2 hi (by decide) rfl rfl rfl dL_law_654 dL_law_655 dL_law_656 (by decide) dL_law_657 dL_law_658 ?_
  refine q_arg CM (a1 := 0) (a2 := 0) hX (K := 3) 3 hi (by decide) rfl rfl rfl dL_law_659 dL_law_660 dL_law_661 (by decide) dL_law_662 dL_law_663 ?_
  refine q_callVi CM (rm := rmX6_worth) (As := [.int (xs (i + 1)), .int (xs (i + 2)), .int (xs (i + 3))]) (rest := [.int r]) (id := 0) (ci := 6) (f := fun r σ => some (r, σ)) (o := (r, μ)) (fun r9 σ9 h9 => kX6_worth l D adM cy _ A zs μ (xs (i + 1)) (xs (i + 2)) (xs (i + 3)) r9 σ9 h9) gL_law_X6_worth rfl rfl rfl hyX6_worth ⟨Nat.le_of_ble_eq_true rfl, Nat.le_of_ble_eq_true rfl⟩ (by decide) (ceM_0 adM cy _ _ _) rfl rfl rfl (Nat.le_of_ble_eq_true rfl) dL_law_664 hR (by rw [g6]; rfl) (fun r1 σ1 e1 => ?_)
  cases e1
  refine q_toC ?_
  have C2 := qC_C C μ
  refine q_icmp_eq C2 (tgt := 1046) (ft := some ()) (ff := none) (o := some ()) dL_law_667 (by decide) (if_pos rfl) (fun _ => ?_) (fun h => by cases h)
  exact ih σ' μ mo la wn fn I2
set_option maxHeartbeats 4000000 in
set_option maxRecDepth 100000 in
theorem lc_begins {adC adM : Nat → Nat} {cy : Nat → ClassId} {A : Nat → Prop} {D : va_G} {zs : Nat × Nat × Option Nat} {p : Program} {l : Launch} {e : Env} {s : State} {m : MethodId} {args : Array Value} {below : List Frame} {meth : Method} {c : Code} {b L : Nat} {xs : Nat → Int32} {kc ks : Nat} {Q : State → Prop} {ret : Option FieldType} {σ μ : St} {mo la wn fn i : Nat} (C : qC ceC 96 adC cy (qw ceM 42 adM cy μ) A D zs cL_law 4 RL wsL_law p s m args meth c ret) (hX : lwX A b L xs s) (h6 : i + 6 ≤ L) (hR : kc ≤ room_1.cells ∧ ks ≤ room_1.slots) (I : Inv σ μ mo la wn fn) (ih : ∀ (σ μ : St) (mo la wn fn : Nat), Inv σ μ mo la wn fn → qW ceC 96 adC cy (qw ceM 42 adM cy μ) A D p l e room_1 s m args below meth c 4 kc ks Q 1046 [(0, .ref b), (1, .ref (adC 0)), (2, .ref (adM 0)), (3, .int (nI i))] [] σ) : qW ceC 96 adC cy (qw ceM 42 adM cy μ) A D p l e room_1 s m args below meth c 4 kc ks Q 672 [(0, .ref b), (1, .ref (adC 0)), (2, .ref (adM 0)), (3, .int (nI i))] [] σ := by
  have hi := h6
  obtain ⟨r, σ', μ', g5, g6, I2⟩ := p_begins I (xs (i + 1)) (xs (i + 2)) (xs (i + 3))
  refine q_aload_n C dL_law_672 rfl 1 rfl ?_
  refine q_arg C (a1 := 0) (a2 := 0) hX (K := 1) 1 hi (by decide) rfl rfl rfl dL_law_673 dL_law_674 dL_law_675 (by decide) dL_law_676 dL_law_677 ?_
  refine q_arg C (a1 := 0) (a2 := 0) hX (K := 2) 2 hi (by decide) rfl rfl rfl dL_law_678 dL_law_679 dL_law_680 (by decide) dL_law_681 dL_law_682 ?_
  refine q_arg C (a1 := 0) (a2 := 0) hX (K := 3) 3 hi (by decide) rfl rfl rfl dL_law_683 dL_law_684 dL_law_685 (by decide) dL_law_686 dL_law_687 ?_
  refine q_callVi C (rm := rmX5_begins) (As := [.int (xs (i + 1)), .int (xs (i + 2)), .int (xs (i + 3))]) (rest := []) (id := 0) (ci := 5) (f := fun r σ => some (r, σ)) (o := (r, σ')) (fun r9 σ9 h9 => kX5_begins l D adC cy _ A zs σ (xs (i + 1)) (xs (i + 2)) (xs (i + 3)) r9 σ9 h9) gL_law_X5_begins rfl rfl rfl hyX5_begins ⟨Nat.le_of_ble_eq_true rfl, Nat.le_of_ble_eq_true rfl⟩ (by decide) (ceC_0 adC cy _ _ _) rfl rfl rfl (Nat.le_of_ble_eq_true rfl) dL_law_688 hR (by rw [g5]; rfl) (fun r1 σ1 e1 => ?_)
  cases e1
  refine q_toM ?_
  have CM := qC_M C σ'
  refine q_aload_n CM dL_law_691 rfl 2 rfl ?_
  refine q_arg CM (a1 := 0) (a2 := 0) hX (K := 1) 1 hi (by decide) rfl rfl rfl dL_law_692 dL_law_693 dL_law_694 (by decide) dL_law_695 dL_law_696 ?_
  refine q_arg CM (a1 := 0) (a2 := 0) hX (K := 2) 2 hi (by decide) rfl rfl rfl dL_law_697 dL_law_698 dL_law_699 (by decide) dL_law_700 dL_law_701 ?_
  refine q_arg CM (a1 := 0) (a2 := 0) hX (K := 3) 3 hi (by decide) rfl rfl rfl dL_law_702 dL_law_703 dL_law_704 (by decide) dL_law_705 dL_law_706 ?_
  refine q_callVi CM (rm := rmX6_begins) (As := [.int (xs (i + 1)), .int (xs (i + 2)), .int (xs (i + 3))]) (rest := [.int r]) (id := 0) (ci := 6) (f := fun r σ => some (r, σ)) (o := (r, μ')) (fun r9 σ9 h9 => kX6_begins l D adM cy _ A zs μ (xs (i + 1)) (xs (i + 2)) (xs (i + 3)) r9 σ9 h9) gL_law_X6_begins rfl rfl rfl hyX6_begins ⟨Nat.le_of_ble_eq_true rfl, Nat.le_of_ble_eq_true rfl⟩ (by decide) (ceM_0 adM cy _ _ _) rfl rfl rfl (Nat.le_of_ble_eq_true rfl) dL_law_707 hR (by rw [g6]; rfl) (fun r1 σ1 e1 => ?_)
  cases e1
  refine q_toC ?_
  have C2 := qC_C C μ'
  refine q_icmp_eq C2 (tgt := 1046) (ft := some ()) (ff := none) (o := some ()) dL_law_710 (by decide) (if_pos rfl) (fun _ => ?_) (fun h => by cases h)
  exact ih σ' μ' mo la wn fn I2
set_option maxHeartbeats 4000000 in
set_option maxRecDepth 100000 in
theorem lc_by {adC adM : Nat → Nat} {cy : Nat → ClassId} {A : Nat → Prop} {D : va_G} {zs : Nat × Nat × Option Nat} {p : Program} {l : Launch} {e : Env} {s : State} {m : MethodId} {args : Array Value} {below : List Frame} {meth : Method} {c : Code} {b L : Nat} {xs : Nat → Int32} {kc ks : Nat} {Q : State → Prop} {ret : Option FieldType} {σ μ : St} {mo la wn fn i : Nat} (C : qC ceC 96 adC cy (qw ceM 42 adM cy μ) A D zs cL_law 4 RL wsL_law p s m args meth c ret) (hX : lwX A b L xs s) (h6 : i + 6 ≤ L) (hR : kc ≤ room_1.cells ∧ ks ≤ room_1.slots) (I : Inv σ μ mo la wn fn) (ih : ∀ (σ μ : St) (mo la wn fn : Nat), Inv σ μ mo la wn fn → qW ceC 96 adC cy (qw ceM 42 adM cy μ) A D p l e room_1 s m args below meth c 4 kc ks Q 1046 [(0, .ref b), (1, .ref (adC 0)), (2, .ref (adM 0)), (3, .int (nI i))] [] σ) : qW ceC 96 adC cy (qw ceM 42 adM cy μ) A D p l e room_1 s m args below meth c 4 kc ks Q 715 [(0, .ref b), (1, .ref (adC 0)), (2, .ref (adM 0)), (3, .int (nI i))] [] σ := by
  have hi := h6
  obtain ⟨r, σ', μ', g5, g6, I2⟩ := p_by I (xs (i + 1)) (xs (i + 2)) (xs (i + 3))
  refine q_aload_n C dL_law_715 rfl 1 rfl ?_
  refine q_arg C (a1 := 0) (a2 := 0) hX (K := 1) 1 hi (by decide) rfl rfl rfl dL_law_716 dL_law_717 dL_law_718 (by decide) dL_law_719 dL_law_720 ?_
  refine q_arg C (a1 := 0) (a2 := 0) hX (K := 2) 2 hi (by decide) rfl rfl rfl dL_law_721 dL_law_722 dL_law_723 (by decide) dL_law_724 dL_law_725 ?_
  refine q_arg C (a1 := 0) (a2 := 0) hX (K := 3) 3 hi (by decide) rfl rfl rfl dL_law_726 dL_law_727 dL_law_728 (by decide) dL_law_729 dL_law_730 ?_
  refine q_callVi C (rm := rmX5_by) (As := [.int (xs (i + 1)), .int (xs (i + 2)), .int (xs (i + 3))]) (rest := []) (id := 0) (ci := 5) (f := fun r σ => some (r, σ)) (o := (r, σ')) (fun r9 σ9 h9 => kX5_by l D adC cy _ A zs σ (xs (i + 1)) (xs (i + 2)) (xs (i + 3)) r9 σ9 h9) gL_law_X5_by rfl rfl rfl hyX5_by ⟨Nat.le_of_ble_eq_true rfl, Nat.le_of_ble_eq_true rfl⟩ (by decide) (ceC_0 adC cy _ _ _) rfl rfl rfl (Nat.le_of_ble_eq_true rfl) dL_law_731 hR (by rw [g5]; rfl) (fun r1 σ1 e1 => ?_)
  cases e1
  refine q_toM ?_
  have CM := qC_M C σ'
  refine q_aload_n CM dL_law_734 rfl 2 rfl ?_
  refine q_arg CM (a1 := 0) (a2 := 0) hX (K := 1) 1 hi (by decide) rfl rfl rfl dL_law_735 dL_law_736 dL_law_737 (by decide) dL_law_738 dL_law_739 ?_
  refine q_arg CM (a1 := 0) (a2 := 0) hX (K := 2) 2 hi (by decide) rfl rfl rfl dL_law_740 dL_law_741 dL_law_742 (by decide) dL_law_743 dL_law_744 ?_
  refine q_arg CM (a1 := 0) (a2 := 0) hX (K := 3) 3 hi (by decide) rfl rfl rfl dL_law_745 dL_law_746 dL_law_747 (by decide) dL_law_748 dL_law_749 ?_
  refine q_callVi CM (rm := rmX6_by) (As := [.int (xs (i + 1)), .int (xs (i + 2)), .int (xs (i + 3))]) (rest := [.int r]) (id := 0) (ci := 6) (f := fun r σ => some (r, σ)) (o := (r, μ')) (fun r9 σ9 h9 => kX6_by l D adM cy _ A zs μ (xs (i + 1)) (xs (i + 2)) (xs (i + 3)) r9 σ9 h9) gL_law_X6_by rfl rfl rfl hyX6_by ⟨Nat.le_of_ble_eq_true rfl, Nat.le_of_ble_eq_true rfl⟩ (by decide) (ceM_0 adM cy _ _ _) rfl rfl rfl (Nat.le_of_ble_eq_true rfl) dL_law_750 hR (by rw [g6]; rfl) (fun r1 σ1 e1 => ?_)
  cases e1
  refine q_toC ?_
  have C2 := qC_C C μ'
  refine q_icmp_eq C2 (tgt := 1046) (ft := some ()) (ff := none) (o := some ()) dL_law_753 (by decide) (if_pos rfl) (fun _ => ?_) (fun h => by cases h)
  exact ih σ' μ' mo la wn fn I2
set_option maxHeartbeats 4000000 in
set_option maxRecDepth 100000 in
theorem lc_heard {adC adM : Nat → Nat} {cy : Nat → ClassId} {A : Nat → Prop} {D : va_G} {zs : Nat × Nat × Option Nat} {p : Program} {l : Launch} {e : Env} {s : State} {m : MethodId} {args : Array Value} {below : List Frame} {meth : Method} {c : Code} {b L : Nat} {xs : Nat → Int32} {kc ks : Nat} {Q : State → Prop} {ret : Option FieldType} {σ μ : St} {mo la wn fn i : Nat} (C : qC ceC 96 adC cy (qw ceM 42 adM cy μ) A D zs cL_law 4 RL wsL_law p s m args meth c ret) (hX : lwX A b L xs s) (h6 : i + 6 ≤ L) (hR : kc ≤ room_1.cells ∧ ks ≤ room_1.slots) (I : Inv σ μ mo la wn fn) (ih : ∀ (σ μ : St) (mo la wn fn : Nat), Inv σ μ mo la wn fn → qW ceC 96 adC cy (qw ceM 42 adM cy μ) A D p l e room_1 s m args below meth c 4 kc ks Q 1046 [(0, .ref b), (1, .ref (adC 0)), (2, .ref (adM 0)), (3, .int (nI i))] [] σ) : qW ceC 96 adC cy (qw ceM 42 adM cy μ) A D p l e room_1 s m args below meth c 4 kc ks Q 758 [(0, .ref b), (1, .ref (adC 0)), (2, .ref (adM 0)), (3, .int (nI i))] [] σ := by
  have hi := h6
  obtain ⟨r, σ', μ', g5, g6, I2⟩ := p_heard I (xs (i + 1)) (xs (i + 2)) (xs (i + 3)) (xs (i + 4))
  refine q_aload_n C dL_law_758 rfl 1 rfl ?_
  refine q_arg C (a1 := 0) (a2 := 0) hX (K := 1) 1 hi (by decide) rfl rfl rfl dL_law_759 dL_law_760 dL_law_761 (by decide) dL_law_762 dL_law_763 ?_
  refine q_arg C (a1 := 0) (a2 := 0) hX (K := 2) 2 hi (by decide) rfl rfl rfl dL_law_764 dL_law_765 dL_law_766 (by decide) dL_law_767 dL_law_768 ?_
  refine q_arg C (a1 := 0) (a2 := 0) hX (K := 3) 3 hi (by decide) rfl rfl rfl dL_law_769 dL_law_770 dL_law_771 (by decide) dL_law_772 dL_law_773 ?_
  refine q_arg C (a1 := 0) (a2 := 0) hX (K := 4) 4 hi (by decide) rfl rfl rfl dL_law_774 dL_law_775 dL_law_776 (by decide) dL_law_777 dL_law_778 ?_
  refine q_callVi C (rm := rmX5_heard) (As := [.int (xs (i + 1)), .int (xs (i + 2)), .int (xs (i + 3)), .int (xs (i + 4))]) (rest := []) (id := 0) (ci := 5) (f := fun r σ => some (r, σ)) (o := (r, σ')) (fun r9 σ9 h9 => kX5_heard l D adC cy _ A zs σ (xs (i + 1)) (xs (i + 2)) (xs (i + 3)) (xs (i + 4)) r9 σ9 h9) gL_law_X5_heard rfl rfl rfl hyX5_heard ⟨Nat.le_of_ble_eq_true rfl, Nat.le_of_ble_eq_true rfl⟩ (by decide) (ceC_0 adC cy _ _ _) rfl rfl rfl (Nat.le_of_ble_eq_true rfl) dL_law_779 hR (by rw [g5]; rfl) (fun r1 σ1 e1 => ?_)
  cases e1
  refine q_toM ?_
  have CM := qC_M C σ'
  refine q_aload_n CM dL_law_782 rfl 2 rfl ?_
  refine q_arg CM (a1 := 0) (a2 := 0) hX (K := 1) 1 hi (by decide) rfl rfl rfl dL_law_783 dL_law_784 dL_law_785 (by decide) dL_law_786 dL_law_787 ?_
  refine q_arg CM (a1 := 0) (a2 := 0) hX (K := 2) 2 hi (by decide) rfl rfl rfl dL_law_788 dL_law_789 dL_law_790 (by decide) dL_law_791 dL_law_792 ?_
  refine q_arg CM (a1 := 0) (a2 := 0) hX (K := 3) 3 hi (by decide) rfl rfl rfl dL_law_793 dL_law_794 dL_law_795 (by decide) dL_law_796 dL_law_797 ?_
  refine q_arg CM (a1 := 0) (a2 := 0) hX (K := 4) 4 hi (by decide) rfl rfl rfl dL_law_798 dL_law_799 dL_law_800 (by decide) dL_law_801 dL_law_802 ?_
  refine q_callVi CM (rm := rmX6_heard) (As := [.int (xs (i + 1)), .int (xs (i + 2)), .int (xs (i + 3)), .int (xs (i + 4))]) (rest := [.int r]) (id := 0) (ci := 6) (f := fun r σ => some (r, σ)) (o := (r, μ')) (fun r9 σ9 h9 => kX6_heard l D adM cy _ A zs μ (xs (i + 1)) (xs (i + 2)) (xs (i + 3)) (xs (i + 4)) r9 σ9 h9) gL_law_X6_heard rfl rfl rfl hyX6_heard ⟨Nat.le_of_ble_eq_true rfl, Nat.le_of_ble_eq_true rfl⟩ (by decide) (ceM_0 adM cy _ _ _) rfl rfl rfl (Nat.le_of_ble_eq_true rfl) dL_law_803 hR (by rw [g6]; rfl) (fun r1 σ1 e1 => ?_)
  cases e1
  refine q_toC ?_
  have C2 := qC_C C μ'
  refine q_icmp_eq C2 (tgt := 1046) (ft := some ()) (ff := none) (o := some ()) dL_law_806 (by decide) (if_pos rfl) (fun _ => ?_) (fun h => by cases h)
  exact ih σ' μ' mo la wn fn I2
set_option maxHeartbeats 4000000 in
set_option maxRecDepth 100000 in
theorem lc_date {adC adM : Nat → Nat} {cy : Nat → ClassId} {A : Nat → Prop} {D : va_G} {zs : Nat × Nat × Option Nat} {p : Program} {l : Launch} {e : Env} {s : State} {m : MethodId} {args : Array Value} {below : List Frame} {meth : Method} {c : Code} {b L : Nat} {xs : Nat → Int32} {kc ks : Nat} {Q : State → Prop} {ret : Option FieldType} {σ μ : St} {mo la wn fn i : Nat} (C : qC ceC 96 adC cy (qw ceM 42 adM cy μ) A D zs cL_law 4 RL wsL_law p s m args meth c ret) (hX : lwX A b L xs s) (h6 : i + 6 ≤ L) (hR : kc ≤ room_1.cells ∧ ks ≤ room_1.slots) (I : Inv σ μ mo la wn fn) (ih : ∀ (σ μ : St) (mo la wn fn : Nat), Inv σ μ mo la wn fn → qW ceC 96 adC cy (qw ceM 42 adM cy μ) A D p l e room_1 s m args below meth c 4 kc ks Q 1046 [(0, .ref b), (1, .ref (adC 0)), (2, .ref (adM 0)), (3, .int (nI i))] [] σ) : qW ceC 96 adC cy (qw ceM 42 adM cy μ) A D p l e room_1 s m args below meth c 4 kc ks Q 811 [(0, .ref b), (1, .ref (adC 0)), (2, .ref (adM 0)), (3, .int (nI i))] [] σ := by
  have hi := h6
  obtain ⟨r, σ', μ', g5, g6, I2⟩ := p_date I (xs (i + 1)) (xs (i + 2)) (xs (i + 3))
  refine q_aload_n C dL_law_811 rfl 1 rfl ?_
  refine q_arg C (a1 := 0) (a2 := 0) hX (K := 1) 1 hi (by decide) rfl rfl rfl dL_law_812 dL_law_813 dL_law_814 (by decide) dL_law_815 dL_law_816 ?_
  refine q_arg C (a1 := 0) (a2 := 0) hX (K := 2) 2 hi (by decide) rfl rfl rfl dL_law_817 dL_law_818 dL_law_819 (by decide) dL_law_820 dL_law_821 ?_
  refine q_arg C (a1 := 0) (a2 := 0) hX (K := 3) 3 hi (by decide) rfl rfl rfl dL_law_822 dL_law_823 dL_law_824 (by decide) dL_law_825 dL_law_826 ?_
  refine q_callVi C (rm := rmX5_date) (As := [.int (xs (i + 1)), .int (xs (i + 2)), .int (xs (i + 3))]) (rest := []) (id := 0) (ci := 5) (f := fun r σ => some (r, σ)) (o := (r, σ')) (fun r9 σ9 h9 => kX5_date l D adC cy _ A zs σ (xs (i + 1)) (xs (i + 2)) (xs (i + 3)) r9 σ9 h9) gL_law_X5_date rfl rfl rfl hyX5_date ⟨Nat.le_of_ble_eq_true rfl, Nat.le_of_ble_eq_true rfl⟩ (by decide) (ceC_0 adC cy _ _ _) rfl rfl rfl (Nat.le_of_ble_eq_true rfl) dL_law_827 hR (by rw [g5]; rfl) (fun r1 σ1 e1 => ?_)
  cases e1
  refine q_toM ?_
  have CM := qC_M C σ'
  refine q_aload_n CM dL_law_830 rfl 2 rfl ?_
  refine q_arg CM (a1 := 0) (a2 := 0) hX (K := 1) 1 hi (by decide) rfl rfl rfl dL_law_831 dL_law_832 dL_law_833 (by decide) dL_law_834 dL_law_835 ?_
  refine q_arg CM (a1 := 0) (a2 := 0) hX (K := 2) 2 hi (by decide) rfl rfl rfl dL_law_836 dL_law_837 dL_law_838 (by decide) dL_law_839 dL_law_840 ?_
  refine q_arg CM (a1 := 0) (a2 := 0) hX (K := 3) 3 hi (by decide) rfl rfl rfl dL_law_841 dL_law_842 dL_law_843 (by decide) dL_law_844 dL_law_845 ?_
  refine q_callVi CM (rm := rmX6_date) (As := [.int (xs (i + 1)), .int (xs (i + 2)), .int (xs (i + 3))]) (rest := [.int r]) (id := 0) (ci := 6) (f := fun r σ => some (r, σ)) (o := (r, μ')) (fun r9 σ9 h9 => kX6_date l D adM cy _ A zs μ (xs (i + 1)) (xs (i + 2)) (xs (i + 3)) r9 σ9 h9) gL_law_X6_date rfl rfl rfl hyX6_date ⟨Nat.le_of_ble_eq_true rfl, Nat.le_of_ble_eq_true rfl⟩ (by decide) (ceM_0 adM cy _ _ _) rfl rfl rfl (Nat.le_of_ble_eq_true rfl) dL_law_846 hR (by rw [g6]; rfl) (fun r1 σ1 e1 => ?_)
  cases e1
  refine q_toC ?_
  have C2 := qC_C C μ'
  refine q_icmp_eq C2 (tgt := 1046) (ft := some ()) (ff := none) (o := some ()) dL_law_849 (by decide) (if_pos rfl) (fun _ => ?_) (fun h => by cases h)
  exact ih σ' μ' mo la wn fn I2
set_option maxHeartbeats 4000000 in
set_option maxRecDepth 100000 in
theorem lc_turn {adC adM : Nat → Nat} {cy : Nat → ClassId} {A : Nat → Prop} {D : va_G} {zs : Nat × Nat × Option Nat} {p : Program} {l : Launch} {e : Env} {s : State} {m : MethodId} {args : Array Value} {below : List Frame} {meth : Method} {c : Code} {b L : Nat} {xs : Nat → Int32} {kc ks : Nat} {Q : State → Prop} {ret : Option FieldType} {σ μ : St} {mo la wn fn i : Nat} (C : qC ceC 96 adC cy (qw ceM 42 adM cy μ) A D zs cL_law 4 RL wsL_law p s m args meth c ret) (hX : lwX A b L xs s) (h6 : i + 6 ≤ L) (hR : kc ≤ room_1.cells ∧ ks ≤ room_1.slots) (I : Inv σ μ mo la wn fn) (ih : ∀ (σ μ : St) (mo la wn fn : Nat), Inv σ μ mo la wn fn → qW ceC 96 adC cy (qw ceM 42 adM cy μ) A D p l e room_1 s m args below meth c 4 kc ks Q 1046 [(0, .ref b), (1, .ref (adC 0)), (2, .ref (adM 0)), (3, .int (nI i))] [] σ) : qW ceC 96 adC cy (qw ceM 42 adM cy μ) A D p l e room_1 s m args below meth c 4 kc ks Q 854 [(0, .ref b), (1, .ref (adC 0)), (2, .ref (adM 0)), (3, .int (nI i))] [] σ := by
  have hi := h6
  obtain ⟨r, σ', μ', g5, g6, I2⟩ := p_turn I (xs (i + 1)) (xs (i + 2)) (xs (i + 3)) (xs (i + 4)) (xs (i + 5))
  refine q_aload_n C dL_law_854 rfl 1 rfl ?_
  refine q_arg C (a1 := 0) (a2 := 0) hX (K := 1) 1 hi (by decide) rfl rfl rfl dL_law_855 dL_law_856 dL_law_857 (by decide) dL_law_858 dL_law_859 ?_
  refine q_arg C (a1 := 0) (a2 := 0) hX (K := 2) 2 hi (by decide) rfl rfl rfl dL_law_860 dL_law_861 dL_law_862 (by decide) dL_law_863 dL_law_864 ?_
  refine q_arg C (a1 := 0) (a2 := 0) hX (K := 3) 3 hi (by decide) rfl rfl rfl dL_law_865 dL_law_866 dL_law_867 (by decide) dL_law_868 dL_law_869 ?_
  refine q_arg C (a1 := 0) (a2 := 0) hX (K := 4) 4 hi (by decide) rfl rfl rfl dL_law_870 dL_law_871 dL_law_872 (by decide) dL_law_873 dL_law_874 ?_
  refine q_arg C (a1 := 0) (a2 := 0) hX (K := 5) 5 hi (by decide) rfl rfl rfl dL_law_875 dL_law_876 dL_law_877 (by decide) dL_law_878 dL_law_879 ?_
  refine q_callVi C (rm := rmX5_turn) (As := [.int (xs (i + 1)), .int (xs (i + 2)), .int (xs (i + 3)), .int (xs (i + 4)), .int (xs (i + 5))]) (rest := []) (id := 0) (ci := 5) (f := fun r σ => some (r, σ)) (o := (r, σ')) (fun r9 σ9 h9 => kX5_turn l D adC cy _ A zs σ (xs (i + 1)) (xs (i + 2)) (xs (i + 3)) (xs (i + 4)) (xs (i + 5)) r9 σ9 h9) gL_law_X5_turn rfl rfl rfl hyX5_turn ⟨Nat.le_of_ble_eq_true rfl, Nat.le_of_ble_eq_true rfl⟩ (by decide) (ceC_0 adC cy _ _ _) rfl rfl rfl (Nat.le_of_ble_eq_true rfl) dL_law_880 hR (by rw [g5]; rfl) (fun r1 σ1 e1 => ?_)
  cases e1
  refine q_toM ?_
  have CM := qC_M C σ'
  refine q_aload_n CM dL_law_883 rfl 2 rfl ?_
  refine q_arg CM (a1 := 0) (a2 := 0) hX (K := 1) 1 hi (by decide) rfl rfl rfl dL_law_884 dL_law_885 dL_law_886 (by decide) dL_law_887 dL_law_888 ?_
  refine q_arg CM (a1 := 0) (a2 := 0) hX (K := 2) 2 hi (by decide) rfl rfl rfl dL_law_889 dL_law_890 dL_law_891 (by decide) dL_law_892 dL_law_893 ?_
  refine q_arg CM (a1 := 0) (a2 := 0) hX (K := 3) 3 hi (by decide) rfl rfl rfl dL_law_894 dL_law_895 dL_law_896 (by decide) dL_law_897 dL_law_898 ?_
  refine q_arg CM (a1 := 0) (a2 := 0) hX (K := 4) 4 hi (by decide) rfl rfl rfl dL_law_899 dL_law_900 dL_law_901 (by decide) dL_law_902 dL_law_903 ?_
  refine q_arg CM (a1 := 0) (a2 := 0) hX (K := 5) 5 hi (by decide) rfl rfl rfl dL_law_904 dL_law_905 dL_law_906 (by decide) dL_law_907 dL_law_908 ?_
  refine q_callVi CM (rm := rmX6_turn) (As := [.int (xs (i + 1)), .int (xs (i + 2)), .int (xs (i + 3)), .int (xs (i + 4)), .int (xs (i + 5))]) (rest := [.int r]) (id := 0) (ci := 6) (f := fun r σ => some (r, σ)) (o := (r, μ')) (fun r9 σ9 h9 => kX6_turn l D adM cy _ A zs μ (xs (i + 1)) (xs (i + 2)) (xs (i + 3)) (xs (i + 4)) (xs (i + 5)) r9 σ9 h9) gL_law_X6_turn rfl rfl rfl hyX6_turn ⟨Nat.le_of_ble_eq_true rfl, Nat.le_of_ble_eq_true rfl⟩ (by decide) (ceM_0 adM cy _ _ _) rfl rfl rfl (Nat.le_of_ble_eq_true rfl) dL_law_909 hR (by rw [g6]; rfl) (fun r1 σ1 e1 => ?_)
  cases e1
  refine q_toC ?_
  have C2 := qC_C C μ'
  refine q_icmp_eq C2 (tgt := 1046) (ft := some ()) (ff := none) (o := some ()) dL_law_912 (by decide) (if_pos rfl) (fun _ => ?_) (fun h => by cases h)
  exact ih σ' μ' mo la wn fn I2
set_option maxHeartbeats 4000000 in
set_option maxRecDepth 100000 in
theorem lc_unlike {adC adM : Nat → Nat} {cy : Nat → ClassId} {A : Nat → Prop} {D : va_G} {zs : Nat × Nat × Option Nat} {p : Program} {l : Launch} {e : Env} {s : State} {m : MethodId} {args : Array Value} {below : List Frame} {meth : Method} {c : Code} {b L : Nat} {xs : Nat → Int32} {kc ks : Nat} {Q : State → Prop} {ret : Option FieldType} {σ μ : St} {mo la wn fn i : Nat} (C : qC ceC 96 adC cy (qw ceM 42 adM cy μ) A D zs cL_law 4 RL wsL_law p s m args meth c ret) (hX : lwX A b L xs s) (h6 : i + 6 ≤ L) (hR : kc ≤ room_1.cells ∧ ks ≤ room_1.slots) (I : Inv σ μ mo la wn fn) (ih : ∀ (σ μ : St) (mo la wn fn : Nat), Inv σ μ mo la wn fn → qW ceC 96 adC cy (qw ceM 42 adM cy μ) A D p l e room_1 s m args below meth c 4 kc ks Q 1046 [(0, .ref b), (1, .ref (adC 0)), (2, .ref (adM 0)), (3, .int (nI i))] [] σ) : qW ceC 96 adC cy (qw ceM 42 adM cy μ) A D p l e room_1 s m args below meth c 4 kc ks Q 917 [(0, .ref b), (1, .ref (adC 0)), (2, .ref (adM 0)), (3, .int (nI i))] [] σ := by
  have hi := h6
  obtain ⟨r, σ', μ', g5, g6, I2⟩ := p_unlike I (xs (i + 1)) (xs (i + 2)) (xs (i + 3)) (xs (i + 4)) (xs (i + 5))
  refine q_aload_n C dL_law_917 rfl 1 rfl ?_
  refine q_arg C (a1 := 0) (a2 := 0) hX (K := 1) 1 hi (by decide) rfl rfl rfl dL_law_918 dL_law_919 dL_law_920 (by decide) dL_law_921 dL_law_922 ?_
  refine q_arg C (a1 := 0) (a2 := 0) hX (K := 2) 2 hi (by decide) rfl rfl rfl dL_law_923 dL_law_924 dL_law_925 (by decide) dL_law_926 dL_law_927 ?_
  refine q_arg C (a1 := 0) (a2 := 0) hX (K := 3) 3 hi (by decide) rfl rfl rfl dL_law_928 dL_law_929 dL_law_930 (by decide) dL_law_931 dL_law_932 ?_
  refine q_arg C (a1 := 0) (a2 := 0) hX (K := 4) 4 hi (by decide) rfl rfl rfl dL_law_933 dL_law_934 dL_law_935 (by decide) dL_law_936 dL_law_937 ?_
  refine q_arg C (a1 := 0) (a2 := 0) hX (K := 5) 5 hi (by decide) rfl rfl rfl dL_law_938 dL_law_939 dL_law_940 (by decide) dL_law_941 dL_law_942 ?_
  refine q_callVi C (rm := rmX5_unlike) (As := [.int (xs (i + 1)), .int (xs (i + 2)), .int (xs (i + 3)), .int (xs (i + 4)), .int (xs (i + 5))]) (rest := []) (id := 0) (ci := 5) (f := fun r σ => some (r, σ)) (o := (r, σ')) (fun r9 σ9 h9 => kX5_unlike l D adC cy _ A zs σ (xs (i + 1)) (xs (i + 2)) (xs (i + 3)) (xs (i + 4)) (xs (i + 5)) r9 σ9 h9) gL_law_X5_unlike rfl rfl rfl hyX5_unlike ⟨Nat.le_of_ble_eq_true rfl, Nat.le_of_ble_eq_true rfl⟩ (by decide) (ceC_0 adC cy _ _ _) rfl rfl rfl (Nat.le_of_ble_eq_true rfl) dL_law_943 hR (by rw [g5]; rfl) (fun r1 σ1 e1 => ?_)
  cases e1
  refine q_toM ?_
  have CM := qC_M C σ'
  refine q_aload_n CM dL_law_946 rfl 2 rfl ?_
  refine q_arg CM (a1 := 0) (a2 := 0) hX (K := 1) 1 hi (by decide) rfl rfl rfl dL_law_947 dL_law_948 dL_law_949 (by decide) dL_law_950 dL_law_951 ?_
  refine q_arg CM (a1 := 0) (a2 := 0) hX (K := 2) 2 hi (by decide) rfl rfl rfl dL_law_952 dL_law_953 dL_law_954 (by decide) dL_law_955 dL_law_956 ?_
  refine q_arg CM (a1 := 0) (a2 := 0) hX (K := 3) 3 hi (by decide) rfl rfl rfl dL_law_957 dL_law_958 dL_law_959 (by decide) dL_law_960 dL_law_961 ?_
  refine q_arg CM (a1 := 0) (a2 := 0) hX (K := 4) 4 hi (by decide) rfl rfl rfl dL_law_962 dL_law_963 dL_law_964 (by decide) dL_law_965 dL_law_966 ?_
  refine q_arg CM (a1 := 0) (a2 := 0) hX (K := 5) 5 hi (by decide) rfl rfl rfl dL_law_967 dL_law_968 dL_law_969 (by decide) dL_law_970 dL_law_971 ?_
  refine q_callVi CM (rm := rmX6_unlike) (As := [.int (xs (i + 1)), .int (xs (i + 2)), .int (xs (i + 3)), .int (xs (i + 4)), .int (xs (i + 5))]) (rest := [.int r]) (id := 0) (ci := 6) (f := fun r σ => some (r, σ)) (o := (r, μ')) (fun r9 σ9 h9 => kX6_unlike l D adM cy _ A zs μ (xs (i + 1)) (xs (i + 2)) (xs (i + 3)) (xs (i + 4)) (xs (i + 5)) r9 σ9 h9) gL_law_X6_unlike rfl rfl rfl hyX6_unlike ⟨Nat.le_of_ble_eq_true rfl, Nat.le_of_ble_eq_true rfl⟩ (by decide) (ceM_0 adM cy _ _ _) rfl rfl rfl (Nat.le_of_ble_eq_true rfl) dL_law_972 hR (by rw [g6]; rfl) (fun r1 σ1 e1 => ?_)
  cases e1
  refine q_toC ?_
  have C2 := qC_C C μ'
  refine q_icmp_eq C2 (tgt := 1046) (ft := some ()) (ff := none) (o := some ()) dL_law_975 (by decide) (if_pos rfl) (fun _ => ?_) (fun h => by cases h)
  exact ih σ' μ' mo la wn fn I2
set_option maxHeartbeats 4000000 in
set_option maxRecDepth 100000 in
theorem lc_changed {adC adM : Nat → Nat} {cy : Nat → ClassId} {A : Nat → Prop} {D : va_G} {zs : Nat × Nat × Option Nat} {p : Program} {l : Launch} {e : Env} {s : State} {m : MethodId} {args : Array Value} {below : List Frame} {meth : Method} {c : Code} {b L : Nat} {xs : Nat → Int32} {kc ks : Nat} {Q : State → Prop} {ret : Option FieldType} {σ μ : St} {mo la wn fn i : Nat} (C : qC ceC 96 adC cy (qw ceM 42 adM cy μ) A D zs cL_law 4 RL wsL_law p s m args meth c ret) (hX : lwX A b L xs s) (h6 : i + 6 ≤ L) (hR : kc ≤ room_1.cells ∧ ks ≤ room_1.slots) (I : Inv σ μ mo la wn fn) (ih : ∀ (σ μ : St) (mo la wn fn : Nat), Inv σ μ mo la wn fn → qW ceC 96 adC cy (qw ceM 42 adM cy μ) A D p l e room_1 s m args below meth c 4 kc ks Q 1046 [(0, .ref b), (1, .ref (adC 0)), (2, .ref (adM 0)), (3, .int (nI i))] [] σ) : qW ceC 96 adC cy (qw ceM 42 adM cy μ) A D p l e room_1 s m args below meth c 4 kc ks Q 980 [(0, .ref b), (1, .ref (adC 0)), (2, .ref (adM 0)), (3, .int (nI i))] [] σ := by
  have hi := h6
  obtain ⟨r, σ', μ', g5, g6, I2⟩ := p_changed I (xs (i + 1)) (xs (i + 2)) (xs (i + 3))
  refine q_aload_n C dL_law_980 rfl 1 rfl ?_
  refine q_arg C (a1 := 0) (a2 := 0) hX (K := 1) 1 hi (by decide) rfl rfl rfl dL_law_981 dL_law_982 dL_law_983 (by decide) dL_law_984 dL_law_985 ?_
  refine q_arg C (a1 := 0) (a2 := 0) hX (K := 2) 2 hi (by decide) rfl rfl rfl dL_law_986 dL_law_987 dL_law_988 (by decide) dL_law_989 dL_law_990 ?_
  refine q_arg C (a1 := 0) (a2 := 0) hX (K := 3) 3 hi (by decide) rfl rfl rfl dL_law_991 dL_law_992 dL_law_993 (by decide) dL_law_994 dL_law_995 ?_
  refine q_callVi C (rm := rmX5_changed) (As := [.int (xs (i + 1)), .int (xs (i + 2)), .int (xs (i + 3))]) (rest := []) (id := 0) (ci := 5) (f := fun r σ => some (r, σ)) (o := (r, σ')) (fun r9 σ9 h9 => kX5_changed l D adC cy _ A zs σ (xs (i + 1)) (xs (i + 2)) (xs (i + 3)) r9 σ9 h9) gL_law_X5_changed rfl rfl rfl hyX5_changed ⟨Nat.le_of_ble_eq_true rfl, Nat.le_of_ble_eq_true rfl⟩ (by decide) (ceC_0 adC cy _ _ _) rfl rfl rfl (Nat.le_of_ble_eq_true rfl) dL_law_996 hR (by rw [g5]; rfl) (fun r1 σ1 e1 => ?_)
  cases e1
  refine q_toM ?_
  have CM := qC_M C σ'
  refine q_aload_n CM dL_law_999 rfl 2 rfl ?_
  refine q_arg CM (a1 := 0) (a2 := 0) hX (K := 1) 1 hi (by decide) rfl rfl rfl dL_law_1000 dL_law_1001 dL_law_1002 (by decide) dL_law_1003 dL_law_1004 ?_
  refine q_arg CM (a1 := 0) (a2 := 0) hX (K := 2) 2 hi (by decide) rfl rfl rfl dL_law_1005 dL_law_1006 dL_law_1007 (by decide) dL_law_1008 dL_law_1009 ?_
  refine q_arg CM (a1 := 0) (a2 := 0) hX (K := 3) 3 hi (by decide) rfl rfl rfl dL_law_1010 dL_law_1011 dL_law_1012 (by decide) dL_law_1013 dL_law_1014 ?_
  refine q_callVi CM (rm := rmX6_changed) (As := [.int (xs (i + 1)), .int (xs (i + 2)), .int (xs (i + 3))]) (rest := [.int r]) (id := 0) (ci := 6) (f := fun r σ => some (r, σ)) (o := (r, μ')) (fun r9 σ9 h9 => kX6_changed l D adM cy _ A zs μ (xs (i + 1)) (xs (i + 2)) (xs (i + 3)) r9 σ9 h9) gL_law_X6_changed rfl rfl rfl hyX6_changed ⟨Nat.le_of_ble_eq_true rfl, Nat.le_of_ble_eq_true rfl⟩ (by decide) (ceM_0 adM cy _ _ _) rfl rfl rfl (Nat.le_of_ble_eq_true rfl) dL_law_1015 hR (by rw [g6]; rfl) (fun r1 σ1 e1 => ?_)
  cases e1
  refine q_toC ?_
  have C2 := qC_C C μ'
  refine q_icmp_eq C2 (tgt := 1046) (ft := some ()) (ff := none) (o := some ()) dL_law_1018 (by decide) (if_pos rfl) (fun _ => ?_) (fun h => by cases h)
  exact ih σ' μ' mo la wn fn I2
set_option maxHeartbeats 4000000 in
set_option maxRecDepth 100000 in
theorem lc_count {adC adM : Nat → Nat} {cy : Nat → ClassId} {A : Nat → Prop} {D : va_G} {zs : Nat × Nat × Option Nat} {p : Program} {l : Launch} {e : Env} {s : State} {m : MethodId} {args : Array Value} {below : List Frame} {meth : Method} {c : Code} {b L : Nat} {xs : Nat → Int32} {kc ks : Nat} {Q : State → Prop} {ret : Option FieldType} {σ μ : St} {mo la wn fn i : Nat} (C : qC ceC 96 adC cy (qw ceM 42 adM cy μ) A D zs cL_law 4 RL wsL_law p s m args meth c ret) (hX : lwX A b L xs s) (h6 : i + 6 ≤ L) (hR : kc ≤ room_1.cells ∧ ks ≤ room_1.slots) (I : Inv σ μ mo la wn fn) (ih : ∀ (σ μ : St) (mo la wn fn : Nat), Inv σ μ mo la wn fn → qW ceC 96 adC cy (qw ceM 42 adM cy μ) A D p l e room_1 s m args below meth c 4 kc ks Q 1046 [(0, .ref b), (1, .ref (adC 0)), (2, .ref (adM 0)), (3, .int (nI i))] [] σ) : qW ceC 96 adC cy (qw ceM 42 adM cy μ) A D p l e room_1 s m args below meth c 4 kc ks Q 1023 [(0, .ref b), (1, .ref (adC 0)), (2, .ref (adM 0)), (3, .int (nI i))] [] σ := by
  have hi := h6
  obtain ⟨r, g5, g6⟩ := p_count I (xs (i + 1))
  refine q_aload_n C dL_law_1023 rfl 1 rfl ?_
  refine q_arg C (a1 := 0) (a2 := 0) hX (K := 1) 1 hi (by decide) rfl rfl rfl dL_law_1024 dL_law_1025 dL_law_1026 (by decide) dL_law_1027 dL_law_1028 ?_
  refine q_callVi C (rm := rmX5_count) (As := [.int (xs (i + 1))]) (rest := []) (id := 0) (ci := 5) (f := fun r σ => some (r, σ)) (o := (r, σ)) (fun r9 σ9 h9 => kX5_count l D adC cy _ A zs σ (xs (i + 1)) r9 σ9 h9) gL_law_X5_count rfl rfl rfl hyX5_count ⟨Nat.le_of_ble_eq_true rfl, Nat.le_of_ble_eq_true rfl⟩ (by decide) (ceC_0 adC cy _ _ _) rfl rfl rfl (Nat.le_of_ble_eq_true rfl) dL_law_1029 hR (by rw [g5]; rfl) (fun r1 σ1 e1 => ?_)
  cases e1
  refine q_toM ?_
  have CM := qC_M C σ
  refine q_aload_n CM dL_law_1032 rfl 2 rfl ?_
  refine q_arg CM (a1 := 0) (a2 := 0) hX (K := 1) 1 hi (by decide) rfl rfl rfl dL_law_1033 dL_law_1034 dL_law_1035 (by decide) dL_law_1036 dL_law_1037 ?_
  refine q_callVi CM (rm := rmX6_count) (As := [.int (xs (i + 1))]) (rest := [.int r]) (id := 0) (ci := 6) (f := fun r σ => some (r, σ)) (o := (r, μ)) (fun r9 σ9 h9 => kX6_count l D adM cy _ A zs μ (xs (i + 1)) r9 σ9 h9) gL_law_X6_count rfl rfl rfl hyX6_count ⟨Nat.le_of_ble_eq_true rfl, Nat.le_of_ble_eq_true rfl⟩ (by decide) (ceM_0 adM cy _ _ _) rfl rfl rfl (Nat.le_of_ble_eq_true rfl) dL_law_1038 hR (by rw [g6]; rfl) (fun r1 σ1 e1 => ?_)
  cases e1
  refine q_toC ?_
  have C2 := qC_C C μ
  refine q_icmp_eq C2 (tgt := 1046) (ft := some ()) (ff := none) (o := some ()) dL_law_1041 (by decide) (if_pos rfl) (fun _ => ?_) (fun h => by cases h)
  exact ih σ μ mo la wn fn I
