/-! Model.goes ((),) -/
noncomputable def ax_c_58_0 : ax_ct := (0, (1, [(0, 150)], [], [], []), [], [some (.ref 244), some (.retAddr 0), none], [(0, 1, .int 0)], [(false, .int 20000), (false, .int 0)], [])
noncomputable def ax_c_58_1 : ax_ct := (24, (2, [(0, 80), (0, 150)], [], [], []), [(244, .int 20, .retAddr 1)], [some (.ref 244), some (.retAddr 0), none], [(0, 1, .int 0), (1, 244, .int 20)], [(false, .int 9976), (true, .retAddr 1)], [])
noncomputable def ax_t_58 : List ax_ct := [ax_c_58_0, ax_c_58_1]
noncomputable def ax_w_58 : ax_D := ([(244, 19), (244, 20), (244, 21), (244, 30)], [(260, 267)])
noncomputable def ax_p_58 : ax_po := (some (some (0, 1)), [], false, false, [])
noncomputable def ax_s_58 : ax_s9 := (180, ax_sumc ax_sp ax_c_58_0 3, ax_w_58, ax_p_58)
noncomputable def ax_l_58 : ax_Y := [ax_s_57, ax_s_56]
set_option maxRecDepth 1000000 in
theorem ax_k_58_0 : ax_cr9 ax_w_58 ax_l_58 ax_t_58 180 3 40000 ax_p_58 ax_c_58_0 = true := by decide +kernel
set_option maxRecDepth 1000000 in
theorem ax_k_58_1 : ax_cr9 ax_w_58 ax_l_58 ax_t_58 180 3 40000 ax_p_58 ax_c_58_1 = true := by decide +kernel
theorem ax_y_58 {X : Nat × (Nat → Int32)} : ax_Y1 X ax_sp ax_rf ax_s_58 := ax_meth9 (c := ax_c_58_0) (T := ax_t_58) (ax_Yc ax_y_57 (ax_Yc ax_y_56 ax_Yn)) ⟨ax_k_58_0, ⟨ax_k_58_1, trivial⟩⟩ List.mem_cons_self rfl
