abbrev RInteger : String := "java/lang/Integer"
abbrev cInteger_compare : ByteArray := prog_12_method_40_code
abbrev yInteger_compare : MethodName := ⟨RInteger, "compare", "(II)I"⟩
abbrev wsInteger_compare : List Cond := .code yInteger_compare cInteger_compare 2 (some .int) :: allW
theorem kInteger_compare : (.code yInteger_compare cInteger_compare 2 (some .int) : Cond) ∈ allW := aw 505 (by decide +kernel) (by decide +kernel)
theorem sm_Integer_compare : (Cond.static yInteger_compare) ∈ allW := aw 504 (by decide +kernel) (by decide +kernel)
abbrev RMath : String := "java/lang/Math"
abbrev cMath_min : ByteArray := prog_13_method_69_code
abbrev yMath_min : MethodName := ⟨RMath, "min", "(II)I"⟩
abbrev wsMath_min : List Cond := .code yMath_min cMath_min 2 (some .int) :: allW
theorem kMath_min : (.code yMath_min cMath_min 2 (some .int) : Cond) ∈ allW := aw 519 (by decide +kernel) (by decide +kernel)
theorem sm_Math_min : (Cond.static yMath_min) ∈ allW := aw 518 (by decide +kernel) (by decide +kernel)
theorem dInteger_compare_0 : decode cInteger_compare 0 = .ok (.iload_n 0, 1) := by decide +kernel
theorem dInteger_compare_1 : decode cInteger_compare 1 = .ok (.iload_n 1, 1) := by decide +kernel
theorem dInteger_compare_2 : decode cInteger_compare 2 = .ok (.if_icmp .ge 7, 3) := by decide +kernel
theorem dInteger_compare_5 : decode cInteger_compare 5 = .ok (.iconst (-1), 1) := by decide +kernel
theorem dInteger_compare_6 : decode cInteger_compare 6 = .ok (.goto 13, 3) := by decide +kernel
theorem dInteger_compare_9 : decode cInteger_compare 9 = .ok (.iload_n 0, 1) := by decide +kernel
theorem dInteger_compare_10 : decode cInteger_compare 10 = .ok (.iload_n 1, 1) := by decide +kernel
theorem dInteger_compare_11 : decode cInteger_compare 11 = .ok (.if_icmp .ne 7, 3) := by decide +kernel
theorem dInteger_compare_14 : decode cInteger_compare 14 = .ok (.iconst 0, 1) := by decide +kernel
theorem dInteger_compare_15 : decode cInteger_compare 15 = .ok (.goto 4, 3) := by decide +kernel
theorem dInteger_compare_18 : decode cInteger_compare 18 = .ok (.iconst 1, 1) := by decide +kernel
theorem dInteger_compare_19 : decode cInteger_compare 19 = .ok (.ireturn, 1) := by decide +kernel
theorem dMath_min_0 : decode cMath_min 0 = .ok (.iload_n 0, 1) := by decide +kernel
theorem dMath_min_1 : decode cMath_min 1 = .ok (.iload_n 1, 1) := by decide +kernel
theorem dMath_min_2 : decode cMath_min 2 = .ok (.if_icmp .gt 7, 3) := by decide +kernel
theorem dMath_min_5 : decode cMath_min 5 = .ok (.iload_n 0, 1) := by decide +kernel
theorem dMath_min_6 : decode cMath_min 6 = .ok (.goto 4, 3) := by decide +kernel
theorem dMath_min_9 : decode cMath_min 9 = .ok (.iload_n 1, 1) := by decide +kernel
theorem dMath_min_10 : decode cMath_min 10 = .ok (.ireturn, 1) := by decide +kernel
theorem gd_J {c0 c1 : Cond} {own : String} {idx : Nat} {y : MethodName} (h1 : Cond.methodLink own idx y ∈ allW) (h2 : Cond.static y ∈ allW) (h4 : Cond.initialized y.cls ∈ allW) (h5 : c1 ∈ allW) : GoodIn (c0 :: allW) (va_wsS own idx y (c1 :: allW)) := by
  intro w hw
  have hm : w ∈ allW := by
    simp only [va_wsS, List.mem_append, List.mem_cons, List.not_mem_nil, or_false] at hw
    rcases hw with (rfl | rfl | rfl) | rfl | h
    · exact h1
    · exact h2
    · exact h4
    · exact h5
    · exact h
  exact ⟨List.mem_cons_of_mem _ hm, good_of_word (List.mem_filter.mp hm).2⟩
