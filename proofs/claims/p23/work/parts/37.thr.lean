/-! the class: what is thrown -/
abbrev xIA : String := "java/lang/IllegalArgumentException"
abbrev xIS : String := "java/lang/IllegalStateException"
abbrev xIO : String := "java/lang/IndexOutOfBoundsException"
theorem tw_in {l : List Cond} (h : ∀ w ∈ l, w ∈ lw_tbl ∧ gt_w w = true) : ∀ w ∈ l, w ∈ GT := fun w hw => List.mem_filter.mpr (h w hw)
theorem tw_IA : ∀ w ∈ vx_atS RX5 64 xIA ["java/lang/RuntimeException", "java/lang/Exception"], w ∈ GT := tw_in (by decide +kernel)
theorem tw_IS : ∀ w ∈ vx_atS RX5 42 xIS ["java/lang/RuntimeException", "java/lang/Exception"], w ∈ GT := tw_in (by decide +kernel)
theorem tw_IO : ∀ w ∈ vx_atS RX5 199 xIO ["java/lang/RuntimeException", "java/lang/Exception"], w ∈ GT := tw_in (by decide +kernel)
theorem thk_IA {is : Nat} {text : String} (h : (RX5, is, text) ∈ strs) : thk RX5 60 is 64 xIA text := ⟨by decide, gt_in 233 (by decide +kernel) rfl, gt_in 31 (by decide +kernel) rfl, h, tw_IA, by decide +kernel⟩
theorem thk_IS {is : Nat} {text : String} (h : (RX5, is, text) ∈ strs) : thk RX5 38 is 42 xIS text := ⟨by decide, gt_in 305 (by decide +kernel) rfl, gt_in 32 (by decide +kernel) rfl, h, tw_IS, by decide +kernel⟩
theorem thk_IO {is : Nat} {text : String} (h : (RX5, is, text) ∈ strs) : thk RX5 195 is 199 xIO text := ⟨by decide, gt_in 346 (by decide +kernel) rfl, gt_in 29 (by decide +kernel) rfl, h, tw_IO, by decide +kernel⟩
