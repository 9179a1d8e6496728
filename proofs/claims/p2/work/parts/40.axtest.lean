/-! the core: a try: calls without loops, of any arguments, over any memory in bounds -/
noncomputable def ax_E0 : ax_E := (5, [sx_full, sx_full, sx_full, sx_full, sx_full], [], [], [])
noncomputable def ax_try (j q : Nat) (f : Nat) : Bool := ax_run (fun _ _ => true, [(0, 1000)]) ax_sp ax_rf ax_mx ax_mt (fun _ _ _ => true) f ax_E0 [] 20 [] j 0 ([some (.ref q), some (.retAddr 0), some (.retAddr 1), some (.retAddr 2)] ++ List.replicate (rx_mx j - 4) none) []
set_option maxRecDepth 1000000 in
theorem ax_t106 : ax_try 106 0 2000 = true := by decide +kernel
set_option maxRecDepth 1000000 in
theorem ax_t160 : ax_try 160 244 2000 = true := by decide +kernel
set_option maxRecDepth 1000000 in
theorem ax_t108 : ax_try 108 0 2000 = true := by decide +kernel
