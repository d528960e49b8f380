/-! what throwing an exception needs of the tables -/
theorem tw_in {own X : String} {ic : Nat} {names : List String} (h : (vx_atS own ic X names).all (fun w => lw_tbl.contains w && (goodWord w || nestW w)) = true) : ∀ w ∈ vx_atS own ic X names, w ∈ GT ∨ w ∈ NLW := by
  intro w hw
  have h1 := List.all_eq_true.mp h w hw
  simp only [Bool.and_eq_true, Bool.or_eq_true] at h1
  obtain ⟨h2, h3⟩ := h1
  have h4 : w ∈ lw_tbl := List.contains_iff_mem.mp h2
  rcases h3 with h3 | h3
  · exact Or.inl (List.mem_filter.mpr ⟨h4, h3⟩)
  · exact Or.inr (List.mem_filter.mpr ⟨h4, h3⟩)
abbrev exNm : List String := ["java/lang/RuntimeException", "java/lang/Exception"]
set_option maxRecDepth 100000 in
theorem tw_1 : (vx_atS RX9 318 "java/lang/IndexOutOfBoundsException" exNm).all (fun w => lw_tbl.contains w && (goodWord w || nestW w)) = true := by decide +kernel
set_option maxRecDepth 100000 in
theorem tw_2 : (vx_atS RX9 281 "java/lang/IllegalArgumentException" exNm).all (fun w => lw_tbl.contains w && (goodWord w || nestW w)) = true := by decide +kernel
set_option maxRecDepth 100000 in
theorem tw_3 : (vx_atS RX9 296 "java/lang/IllegalStateException" exNm).all (fun w => lw_tbl.contains w && (goodWord w || nestW w)) = true := by decide +kernel
set_option maxRecDepth 100000 in
theorem tw_5 : (vx_atS RX9 326 "java/lang/ArithmeticException" exNm).all (fun w => lw_tbl.contains w && (goodWord w || nestW w)) = true := by decide +kernel
