/-! Model.atom ((),) -/
noncomputable def ax_c_57_0 : ax_ct := (0, (1, [((-2147483648), 2147483647)], [], [], []), [], [some (.ref 244), some (.retAddr 0)], [(0, 1, .int 0)], [], [])
noncomputable def ax_t_57 : List ax_ct := [ax_c_57_0]
noncomputable def ax_w_57 : ax_D := ([], [(262, 262)])
noncomputable def ax_p_57 : ax_po := (none, [], false, false, [])
noncomputable def ax_s_57 : ax_s9 := (174, ax_sumc ax_sp ax_c_57_0 1, ax_w_57, ax_p_57)
noncomputable def ax_l_57 : ax_Y := []
set_option maxRecDepth 1000000 in
theorem ax_k_57_0 : ax_cr9 ax_w_57 ax_l_57 ax_t_57 174 1 40000 ax_p_57 ax_c_57_0 = true := by decide +kernel
theorem ax_y_57 {X : Nat × (Nat → Int32)} : ax_Y1 X ax_sp ax_rf ax_s_57 := ax_meth9 (c := ax_c_57_0) (T := ax_t_57) ax_Yn ⟨ax_k_57_0, trivial⟩ List.mem_cons_self rfl
