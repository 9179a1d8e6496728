/-! the throws: their words -/
noncomputable def rx_iae : String := "java/lang/IllegalArgumentException"
noncomputable def rx_ise : String := "java/lang/IllegalStateException"
noncomputable def rx_sup : List String := ["java/lang/RuntimeException", "java/lang/Exception"]
set_option maxRecDepth 100000 in
theorem rx_w1 : (Cond.classLink "HourValley" 228 rx_iae :: Cond.initialized rx_iae :: vx_atS "HourValley" 232 rx_iae rx_sup).all (fun w => vx_ot w && (decide (w ∈ lw_tbl) || decide (w = .castable rx_iae rx_iae))) = true := by decide +kernel
set_option maxRecDepth 100000 in
theorem rx_w2 : (Cond.classLink "HourValley" 333 rx_ise :: Cond.initialized rx_ise :: vx_atS "HourValley" 337 rx_ise rx_sup).all (fun w => vx_ot w && (decide (w ∈ lw_tbl) || decide (w = .castable rx_ise rx_ise))) = true := by decide +kernel
