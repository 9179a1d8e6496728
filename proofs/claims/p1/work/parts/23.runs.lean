set_option maxRecDepth 1000000 in
theorem sx_t18 : sx_R0 6 (sx_E0 18 18) = true := by decide +kernel
