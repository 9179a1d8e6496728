/-! Model.ring ('ring', 2) -/
noncomputable def ax_c_94_0 : ax_ct := (0, (2, [((-2147483648), 2147483647), (0, 0)], [], [], []), [], [some (.ref 244), some (.retAddr 0), some (.retAddr 1), none], [(0, 1, .int 0), (0, 2, .int 0)], [], [])
noncomputable def ax_t_94 : List ax_ct := [ax_c_94_0]
noncomputable def ax_w_94 : ax_D := ([(244, 7)], [(249, 256)])
noncomputable def ax_p_94 : ax_po := (some (some ((-15), 149)), [], false, false, [])
noncomputable def ax_s_94 : ax_s9 := (192, ax_sumc ax_sp ax_c_94_0 3, ax_w_94, ax_p_94)
noncomputable def ax_l_94 : ax_Y := [ax_s_75]
set_option maxRecDepth 1000000 in
theorem ax_k_94_0 : ax_cr9 ax_w_94 ax_l_94 ax_t_94 192 3 40000 ax_p_94 ax_c_94_0 = true := by decide +kernel
theorem ax_y_94 {X : Nat × (Nat → Int32)} : ax_Y1 X ax_sp ax_rf ax_s_94 := ax_meth9 (c := ax_c_94_0) (T := ax_t_94) (ax_Yc ax_y_75 ax_Yn) ⟨ax_k_94_0, trivial⟩ List.mem_cons_self rfl
/-! Model.ring ('ring', 3) -/
noncomputable def ax_c_95_0 : ax_ct := (0, (2, [((-2147483648), 2147483647), (1, 1)], [], [], []), [], [some (.ref 244), some (.retAddr 0), some (.retAddr 1), none], [(0, 1, .int 0), (0, 2, .int 0)], [], [])
noncomputable def ax_t_95 : List ax_ct := [ax_c_95_0]
noncomputable def ax_w_95 : ax_D := ([(244, 7)], [(249, 256)])
noncomputable def ax_p_95 : ax_po := (some (some ((-15), 149)), [], false, false, [])
noncomputable def ax_s_95 : ax_s9 := (192, ax_sumc ax_sp ax_c_95_0 3, ax_w_95, ax_p_95)
noncomputable def ax_l_95 : ax_Y := [ax_s_75]
set_option maxRecDepth 1000000 in
theorem ax_k_95_0 : ax_cr9 ax_w_95 ax_l_95 ax_t_95 192 3 40000 ax_p_95 ax_c_95_0 = true := by decide +kernel
theorem ax_y_95 {X : Nat × (Nat → Int32)} : ax_Y1 X ax_sp ax_rf ax_s_95 := ax_meth9 (c := ax_c_95_0) (T := ax_t_95) (ax_Yc ax_y_75 ax_Yn) ⟨ax_k_95_0, trivial⟩ List.mem_cons_self rfl
