set_option maxRecDepth 1000000 in
theorem sx_t19 : sx_R0 6 (sx_E0 19 19) = true := by decide +kernel
