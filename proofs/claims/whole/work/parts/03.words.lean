theorem kw_40 : Cond.initialized "ParagraphWalk$Nodes" ∈ TB := tb_of (i := 40) (by decide +kernel) rfl
theorem kw_78 : Cond.fieldLink "ParagraphWalk$Nodes" 9 "ParagraphWalk$Nodes" "kinds" "[I" ∈ TB := tb_of (i := 78) (by decide +kernel) rfl
theorem kw_79 : Cond.fieldLink "ParagraphWalk$Nodes" 15 "ParagraphWalk$Nodes" "as" "[I" ∈ TB := tb_of (i := 79) (by decide +kernel) rfl
theorem kw_82 : Cond.fieldLink "ParagraphWalk$Nodes" 42 "ParagraphWalk$Nodes" "many" "I" ∈ TB := tb_of (i := 82) (by decide +kernel) rfl
theorem kw_332 : Cond.methodLink "ParagraphWalk$Nodes" 46 ⟨"ParagraphWalk$Nodes", "kindOf", "(I)I"⟩ ∈ TB := tb_of (i := 332) (by decide +kernel) rfl
theorem kw_333 : Cond.instanceMethod ⟨"ParagraphWalk$Nodes", "kindOf", "(I)I"⟩ ∈ TB := tb_of (i := 333) (by decide +kernel) rfl
theorem kw_334 : Cond.selects "ParagraphWalk$Nodes" ⟨"ParagraphWalk$Nodes", "kindOf", "(I)I"⟩ ⟨"ParagraphWalk$Nodes", "kindOf", "(I)I"⟩ ∈ TB := tb_of (i := 334) (by decide +kernel) rfl
theorem kw_335 : Cond.code ⟨"ParagraphWalk$Nodes", "kindOf", "(I)I"⟩ prog_5_method_3_code 2 (some .int) ∈ TB := tb_of (i := 335) (by decide +kernel) rfl
