def fAl (C : String) (T : u_T) (l : List Nat) : Prop := ∀ k ∈ l, u_lay C T k ∈ lw_tbl
theorem fa_nl {C : String} {T : u_T} : fAl C T [] := fun _ h => absurd h List.not_mem_nil
theorem fa_cs {C : String} {T : u_T} {a : Nat} {l : List Nat} (h : u_lay C T a ∈ lw_tbl) (t : fAl C T l) : fAl C T (a :: l) := fun v hv => by
  rcases List.mem_cons.mp hv with e | e
  · subst e; exact h
  · exact t v e
theorem fal_in {C : String} {T : u_T} {n : Nat} (h : fAl C T (List.range n)) : InL lw_tbl (u_ws C T n) := fun w hw => by
  obtain ⟨k, hk, e⟩ := List.mem_map.mp hw
  subst e
  exact h k hk
set_option maxRecDepth 20000 in
theorem wt_q0 : fAl RX0 TX0 (List.range 9) := (show fAl RX0 TX0 [0, 1, 2, 3, 4, 5, 6, 7, 8] from fa_cs (tt_1 94 rfl) (fa_cs (tt_1 96 rfl) (fa_cs (tt_1 98 rfl) (fa_cs (tt_1 100 rfl) (fa_cs (tt_1 102 rfl) (fa_cs (tt_1 104 rfl) (fa_cs (tt_1 106 rfl) (fa_cs (tt_1 108 rfl) (fa_cs (tt_1 110 rfl) fa_nl)))))))))
theorem wt_X0 : InL lw_tbl wsX00 := fal_in wt_q0
set_option maxRecDepth 20000 in
theorem wt_q1 : fAl RX1 TX1 (List.range 10) := (show fAl RX1 TX1 [0, 1, 2, 3, 4, 5, 6, 7, 8, 9] from fa_cs (tt_1 199 rfl) (fa_cs (tt_1 201 rfl) (fa_cs (tt_1 203 rfl) (fa_cs (tt_1 205 rfl) (fa_cs (tt_1 207 rfl) (fa_cs (tt_1 209 rfl) (fa_cs (tt_1 211 rfl) (fa_cs (tt_1 213 rfl) (fa_cs (tt_1 215 rfl) (fa_cs (tt_1 217 rfl) fa_nl))))))))))
theorem wt_X1 : InL lw_tbl wsX10 := fal_in wt_q1
set_option maxRecDepth 20000 in
theorem wt_q2 : fAl RX2 TX2 (List.range 10) := (show fAl RX2 TX2 [0, 1, 2, 3, 4, 5, 6, 7, 8, 9] from fa_cs (tt_1 158 rfl) (fa_cs (tt_1 160 rfl) (fa_cs (tt_1 162 rfl) (fa_cs (tt_1 164 rfl) (fa_cs (tt_1 166 rfl) (fa_cs (tt_1 168 rfl) (fa_cs (tt_1 170 rfl) (fa_cs (tt_1 172 rfl) (fa_cs (tt_1 174 rfl) (fa_cs (tt_1 176 rfl) fa_nl))))))))))
theorem wt_X2 : InL lw_tbl wsX20 := fal_in wt_q2
set_option maxRecDepth 20000 in
theorem wt_q3 : fAl RX3 TX3 (List.range 6) := (show fAl RX3 TX3 [0, 1, 2, 3, 4, 5] from fa_cs (tt_1 128 rfl) (fa_cs (tt_1 130 rfl) (fa_cs (tt_1 132 rfl) (fa_cs (tt_1 134 rfl) (fa_cs (tt_1 136 rfl) (fa_cs (tt_1 138 rfl) fa_nl))))))
theorem wt_X3 : InL lw_tbl wsX30 := fal_in wt_q3
set_option maxRecDepth 20000 in
theorem wt_q4 : fAl RX4 TX4 (List.range 8) := (show fAl RX4 TX4 [0, 1, 2, 3, 4, 5, 6, 7] from fa_cs (tt_1 52 rfl) (fa_cs (tt_1 54 rfl) (fa_cs (tt_1 56 rfl) (fa_cs (tt_1 58 rfl) (fa_cs (tt_1 60 rfl) (fa_cs (tt_1 62 rfl) (fa_cs (tt_1 64 rfl) (fa_cs (tt_1 66 rfl) fa_nl))))))))
theorem wt_X4 : InL lw_tbl wsX40 := fal_in wt_q4
set_option maxRecDepth 20000 in
theorem wt_q5 : fAl RX5 TX5 (List.range 10) := (show fAl RX5 TX5 [0, 1, 2, 3, 4, 5, 6, 7, 8, 9] from fa_cs (tt_1 230 rfl) (fa_cs (tt_1 232 rfl) (fa_cs (tt_1 234 rfl) (fa_cs (tt_1 236 rfl) (fa_cs (tt_1 238 rfl) (fa_cs (tt_2 0 rfl) (fa_cs (tt_2 2 rfl) (fa_cs (tt_2 4 rfl) (fa_cs (tt_2 6 rfl) (fa_cs (tt_2 8 rfl) fa_nl))))))))))
theorem wt_X5 : InL lw_tbl wsX50 := fal_in wt_q5
set_option maxRecDepth 20000 in
theorem wt_q6 : fAl RX6 TX6 (List.range 60) := (show fAl RX6 TX6 [0, 1, 2, 3, 4, 5, 6, 7, 8, 9, 10, 11, 12, 13, 14, 15, 16, 17, 18, 19, 20, 21, 22, 23, 24, 25, 26, 27, 28, 29, 30, 31, 32, 33, 34, 35, 36, 37, 38, 39, 40, 41, 42, 43, 44, 45, 46, 47, 48, 49, 50, 51, 52, 53, 54, 55, 56, 57, 58, 59] from fa_cs (tt_4 1 rfl) (fa_cs (tt_4 3 rfl) (fa_cs (tt_4 5 rfl) (fa_cs (tt_4 7 rfl) (fa_cs (tt_4 9 rfl) (fa_cs (tt_4 11 rfl) (fa_cs (tt_4 13 rfl) (fa_cs (tt_4 15 rfl) (fa_cs (tt_4 17 rfl) (fa_cs (tt_4 19 rfl) (fa_cs (tt_4 21 rfl) (fa_cs (tt_4 23 rfl) (fa_cs (tt_4 25 rfl) (fa_cs (tt_4 27 rfl) (fa_cs (tt_4 29 rfl) (fa_cs (tt_4 31 rfl) (fa_cs (tt_4 33 rfl) (fa_cs (tt_4 35 rfl) (fa_cs (tt_4 37 rfl) (fa_cs (tt_4 39 rfl) (fa_cs (tt_4 41 rfl) (fa_cs (tt_4 43 rfl) (fa_cs (tt_4 45 rfl) (fa_cs (tt_4 47 rfl) (fa_cs (tt_4 49 rfl) (fa_cs (tt_4 51 rfl) (fa_cs (tt_4 53 rfl) (fa_cs (tt_4 55 rfl) (fa_cs (tt_4 57 rfl) (fa_cs (tt_4 59 rfl) (fa_cs (tt_4 61 rfl) (fa_cs (tt_4 63 rfl) (fa_cs (tt_4 65 rfl) (fa_cs (tt_4 67 rfl) (fa_cs (tt_4 69 rfl) (fa_cs (tt_4 71 rfl) (fa_cs (tt_4 73 rfl) (fa_cs (tt_4 75 rfl) (fa_cs (tt_4 77 rfl) (fa_cs (tt_4 79 rfl) (fa_cs (tt_4 81 rfl) (fa_cs (tt_4 83 rfl) (fa_cs (tt_4 85 rfl) (fa_cs (tt_4 87 rfl) (fa_cs (tt_4 89 rfl) (fa_cs (tt_4 91 rfl) (fa_cs (tt_4 93 rfl) (fa_cs (tt_4 95 rfl) (fa_cs (tt_4 97 rfl) (fa_cs (tt_4 99 rfl) (fa_cs (tt_4 101 rfl) (fa_cs (tt_4 103 rfl) (fa_cs (tt_4 105 rfl) (fa_cs (tt_4 107 rfl) (fa_cs (tt_4 109 rfl) (fa_cs (tt_4 111 rfl) (fa_cs (tt_4 113 rfl) (fa_cs (tt_4 115 rfl) (fa_cs (tt_4 117 rfl) (fa_cs (tt_4 119 rfl) fa_nl))))))))))))))))))))))))))))))))))))))))))))))))))))))))))))
theorem wt_X6 : InL lw_tbl wsX60 := fal_in wt_q6
