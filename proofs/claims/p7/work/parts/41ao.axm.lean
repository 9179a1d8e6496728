/-! .copy ('copy', 0) -/
noncomputable def ax_c_250_0 : ax_ct := (0, (5, [((-2147483648), 2147483647), ((-2147483648), 2147483647), ((-2147483648), 2147483647), ((-2147483648), 2147483647), ((-2147483648), 2147483647)], [], [], []), [], [some (.ref 0), some (.retAddr 0), some (.retAddr 1), some (.retAddr 2), some (.retAddr 3), some (.retAddr 4)], [(0, 1, .int 0), (0, 2, .int 0), (0, 3, .int 0), (0, 4, .int 0), (0, 5, .int 0)], [], [])
noncomputable def ax_t_250 : List ax_ct := [ax_c_250_0]
noncomputable def ax_w_250 : ax_D := ([], [(236, 243)])
noncomputable def ax_p_250 : ax_po := (some (some ((-15), 80)), [], false, false, [])
noncomputable def ax_s_250 : ax_s9 := (141, ax_sumc ax_sp ax_c_250_0 2, ax_w_250, ax_p_250)
noncomputable def ax_l_250 : ax_Y := []
set_option maxRecDepth 1000000 in
theorem ax_k_250_0 : ax_cr9 ax_w_250 ax_l_250 ax_t_250 141 2 40000 ax_p_250 ax_c_250_0 = true := by decide +kernel
theorem ax_y_250 {X : Nat × (Nat → Int32)} : ax_Y1 X ax_sp ax_rf ax_s_250 := ax_meth9 (c := ax_c_250_0) (T := ax_t_250) ax_Yn ⟨ax_k_250_0, trivial⟩ List.mem_cons_self rfl
