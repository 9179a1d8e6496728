/-! the third call, by its first int -/
noncomputable def sx_E3 (lo hi : Int) : sx_E := [sx_full, (lo, hi), sx_full, sx_full, sx_full, sx_full, (3, 3)]
set_option maxRecDepth 1000000 in
theorem sx_t3n : sx_R0 6 (sx_E3 (-2147483648) (-1)) = true := by decide +kernel
set_option maxRecDepth 1000000 in
theorem sx_t3_0 : sx_R0 6 (sx_E3 0 0) = true := by decide +kernel
set_option maxRecDepth 1000000 in
theorem sx_t3_1 : sx_R0 6 (sx_E3 1 1) = true := by decide +kernel
set_option maxRecDepth 1000000 in
theorem sx_t3_2 : sx_R0 6 (sx_E3 2 2) = true := by decide +kernel
set_option maxRecDepth 1000000 in
theorem sx_t3_3 : sx_R0 6 (sx_E3 3 3) = true := by decide +kernel
set_option maxRecDepth 1000000 in
theorem sx_t3_4 : sx_R0 6 (sx_E3 4 4) = true := by decide +kernel
set_option maxRecDepth 1000000 in
theorem sx_t3_5 : sx_R0 6 (sx_E3 5 5) = true := by decide +kernel
set_option maxRecDepth 1000000 in
theorem sx_t3g : sx_R0 6 (sx_E3 6 2147483647) = true := by decide +kernel
