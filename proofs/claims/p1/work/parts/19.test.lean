noncomputable def sx_E0 (lo hi : Int) : sx_E := [sx_full, sx_full, sx_full, sx_full, sx_full, sx_full, (lo, hi)]
noncomputable def sx_R0 (L : Nat) (lo hi : Int) (f : Nat) : Bool := sx_run L f (sx_E0 lo hi) 40 [] 249 0 [some (.ref 1000), none, none, none, none, none, none, none] [] (0, 0, 0) ([], [])
set_option maxRecDepth 1000000 in
theorem sx_t20 : sx_R0 6 20 20 100000 = true := by decide +kernel
