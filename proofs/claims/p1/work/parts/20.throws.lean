def xnames : List String := ["java/lang/RuntimeException", "java/lang/Exception"]
theorem zz1 : (vx_atS RX7 294 "java/lang/IllegalArgumentException" xnames).filter (fun w => !goodWord w) = [.castable "java/lang/IllegalArgumentException" "java/lang/IllegalArgumentException"] := by decide +kernel
theorem zz2 : ∀ w ∈ (vx_atS RX7 294 "java/lang/IllegalArgumentException" xnames), vx_ot w = true := by decide +kernel
theorem zz3 : ∀ w ∈ (vx_atS RX7 294 "java/lang/IllegalArgumentException" xnames).filter goodWord, w ∈ lw_tbl := by decide +kernel
theorem zz4 : ∀ w ∈ (vx_atS RX7 301 "java/lang/IllegalStateException" xnames).filter goodWord, w ∈ lw_tbl := by decide +kernel
