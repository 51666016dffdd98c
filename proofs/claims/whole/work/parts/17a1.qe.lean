theorem lw_qE {s : State} {b : Nat} {A : Nat → Prop} (hA : ∀ a : Nat, a < s.heap.size → ¬ A a) (hts : ∀ w ∈ lw_tbl, w.before #[Value.ref b] s = true) (hgv : (Jvm.Cond.and given_1 narrow_1).before #[Value.ref b] s = true) : ∃ zs, qE zs A s s.heap := by
  have hs := flat_of_before _ hgv
  obtain ⟨adK, adV, hS, he⟩ := vk_Sof (args := #[Value.ref b]) (s := s) (N := 1) (tm := fun _ => .string "CrescentCourt$Reader" 131) (len := [71]) (byt := [wordsB]) (A := A)
    (fun i hi => by have e : i = 0 := by omega
                    subst e; decide)
    (fun i hi => hs _ fl_ex) (fun i hi => hs _ fl_co) (fun i hi => hs _ fl_ar)
    (fun i hi => by have e : i = 0 := by omega
                    subst e; exact hs _ fl_le)
    (fun i hi j hj => by have e : i = 0 := by omega
                         subst e; exact hs _ (fl_wd j hj))
    (fun i j hi hj hn => absurd (show i = j by omega) hn) hA
  obtain ⟨v, hv, hr⟩ := Cond.isRef_spec (hs (Cond.isRef (.static "jdk/internal/util/Preconditions" "SIOOBE_FORMATTER" "Ljava/util/function/BiFunction;")) fl_sf)
  obtain ⟨o, rfl⟩ : ∃ o, v = va_rf o := by
    cases v with
    | null => exact ⟨none, rfl⟩
    | ref a => exact ⟨some a, rfl⟩
    | _ => simp [Value.isRef] at hr
  have hS2 : vk_S 1 [71] [wordsB] (fun _ => adK 0) (fun _ => adV 0) A s s.heap := by
    refine ⟨fun i hi => ?_, fun i j hi hj hn => ?_⟩
    · have e : i = 0 := by omega
      subst e
      exact hS.1 0 hi
    · exact (show i = j by omega)
  exact ⟨(adK 0, adV 0, o), va_tabs (A := #[Value.ref b]) (u := s) rfl rfl (hts (.methodLinkNest "CrescentCourt$Months" 134 yX5_isEvening "CrescentCourt") tb_even), vk_R.of (hts (.stringRef "CrescentCourt$Reader" 131 wordsT) tb_word) (he 0 (by omega)), hS2, va_Zof (hts (.laysStatic "java/lang/String" "COMPACT_STRINGS" "Z") tb_lcs) (hts (.initialized "java/lang/String") tb_is) (va_eqt (hs _ fl_cs)) hA, va_Zof (hts (.laysStatic "jdk/internal/util/Preconditions" "SIOOBE_FORMATTER" "Ljava/util/function/BiFunction;") tb_lsf) (hts (.initialized "jdk/internal/util/Preconditions") tb_ip) hv hA⟩
