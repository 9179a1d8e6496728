/-! every path of a script of six ints, by the number of its call -/
noncomputable def sx_E0 (lo hi : Int) : sx_E := [sx_full, sx_full, sx_full, sx_full, sx_full, sx_full, (lo, hi)]
noncomputable def sx_R0 (L : Nat) (E : sx_E) : Bool := sx_run L 100000 E 40 [] 249 0 [some (.ref 1000), none, none, none, none, none, none, none] [] (0, 0, 0) ([], [])
set_option maxRecDepth 1000000 in
theorem sx_t0 : sx_R0 6 (sx_E0 0 0) = true := by decide +kernel
set_option maxRecDepth 1000000 in
theorem sx_t1 : sx_R0 6 (sx_E0 1 1) = true := by decide +kernel
set_option maxRecDepth 1000000 in
theorem sx_t2 : sx_R0 6 (sx_E0 2 2) = true := by decide +kernel
set_option maxRecDepth 1000000 in
theorem sx_t4 : sx_R0 6 (sx_E0 4 4) = true := by decide +kernel
set_option maxRecDepth 1000000 in
theorem sx_t5 : sx_R0 6 (sx_E0 5 5) = true := by decide +kernel
set_option maxRecDepth 1000000 in
theorem sx_t6 : sx_R0 6 (sx_E0 6 6) = true := by decide +kernel
set_option maxRecDepth 1000000 in
theorem sx_t7 : sx_R0 6 (sx_E0 7 7) = true := by decide +kernel
set_option maxRecDepth 1000000 in
theorem sx_t8 : sx_R0 6 (sx_E0 8 8) = true := by decide +kernel
set_option maxRecDepth 1000000 in
theorem sx_t9 : sx_R0 6 (sx_E0 9 9) = true := by decide +kernel
set_option maxRecDepth 1000000 in
theorem sx_t10 : sx_R0 6 (sx_E0 10 10) = true := by decide +kernel
set_option maxRecDepth 1000000 in
theorem sx_t11 : sx_R0 6 (sx_E0 11 11) = true := by decide +kernel
set_option maxRecDepth 1000000 in
theorem sx_t12 : sx_R0 6 (sx_E0 12 12) = true := by decide +kernel
set_option maxRecDepth 1000000 in
theorem sx_t13 : sx_R0 6 (sx_E0 13 13) = true := by decide +kernel
set_option maxRecDepth 1000000 in
theorem sx_t14 : sx_R0 6 (sx_E0 14 14) = true := by decide +kernel
set_option maxRecDepth 1000000 in
theorem sx_t15 : sx_R0 6 (sx_E0 15 15) = true := by decide +kernel
set_option maxRecDepth 1000000 in
theorem sx_t16 : sx_R0 6 (sx_E0 16 16) = true := by decide +kernel
set_option maxRecDepth 1000000 in
theorem sx_t17 : sx_R0 6 (sx_E0 17 17) = true := by decide +kernel
set_option maxRecDepth 1000000 in
theorem sx_t20 : sx_R0 6 (sx_E0 20 20) = true := by decide +kernel
set_option maxRecDepth 1000000 in
theorem sx_t21 : sx_R0 6 (sx_E0 21 21) = true := by decide +kernel
set_option maxRecDepth 1000000 in
theorem sx_t22 : sx_R0 6 (sx_E0 22 22) = true := by decide +kernel
set_option maxRecDepth 1000000 in
theorem sx_t23 : sx_R0 6 (sx_E0 23 23) = true := by decide +kernel
set_option maxRecDepth 1000000 in
theorem sx_t24 : sx_R0 6 (sx_E0 24 24) = true := by decide +kernel
set_option maxRecDepth 1000000 in
theorem sx_t25 : sx_R0 6 (sx_E0 25 25) = true := by decide +kernel
set_option maxRecDepth 1000000 in
theorem sx_t26 : sx_R0 6 (sx_E0 26 26) = true := by decide +kernel
set_option maxRecDepth 1000000 in
theorem sx_t27 : sx_R0 6 (sx_E0 27 27) = true := by decide +kernel
set_option maxRecDepth 1000000 in
theorem sx_t28 : sx_R0 6 (sx_E0 28 28) = true := by decide +kernel
set_option maxRecDepth 1000000 in
theorem sx_t29 : sx_R0 6 (sx_E0 29 29) = true := by decide +kernel
set_option maxRecDepth 1000000 in
theorem sx_t30 : sx_R0 6 (sx_E0 30 30) = true := by decide +kernel
set_option maxRecDepth 1000000 in
theorem sx_t31 : sx_R0 6 (sx_E0 31 31) = true := by decide +kernel
set_option maxRecDepth 1000000 in
theorem sx_t32 : sx_R0 6 (sx_E0 32 32) = true := by decide +kernel
set_option maxRecDepth 1000000 in
theorem sx_t33 : sx_R0 6 (sx_E0 33 33) = true := by decide +kernel
set_option maxRecDepth 1000000 in
theorem sx_t34 : sx_R0 6 (sx_E0 34 34) = true := by decide +kernel
set_option maxRecDepth 1000000 in
theorem sx_t35 : sx_R0 6 (sx_E0 35 35) = true := by decide +kernel
set_option maxRecDepth 1000000 in
theorem sx_t36 : sx_R0 6 (sx_E0 36 36) = true := by decide +kernel
set_option maxRecDepth 1000000 in
theorem sx_t37 : sx_R0 6 (sx_E0 37 37) = true := by decide +kernel
set_option maxRecDepth 1000000 in
theorem sx_t38 : sx_R0 6 (sx_E0 38 63) = true := by decide +kernel
set_option maxRecDepth 1000000 in
theorem sx_u0 : sx_R0 0 (sx_E0 0 63) = true := by decide +kernel
set_option maxRecDepth 1000000 in
theorem sx_u1 : sx_R0 1 (sx_E0 0 63) = true := by decide +kernel
set_option maxRecDepth 1000000 in
theorem sx_u2 : sx_R0 2 (sx_E0 0 63) = true := by decide +kernel
set_option maxRecDepth 1000000 in
theorem sx_u3 : sx_R0 3 (sx_E0 0 63) = true := by decide +kernel
set_option maxRecDepth 1000000 in
theorem sx_u4 : sx_R0 4 (sx_E0 0 63) = true := by decide +kernel
set_option maxRecDepth 1000000 in
theorem sx_u5 : sx_R0 5 (sx_E0 0 63) = true := by decide +kernel
