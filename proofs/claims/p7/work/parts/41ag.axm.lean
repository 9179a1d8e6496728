/-! Model.ring ('ring', 2) -/
noncomputable def ax_c_94_0 : ax_ct := (0, (2, [((-2147483648), 2147483647), (0, 0)], [], [], []), [], [some (.ref 244), some (.retAddr 0), some (.retAddr 1), none], [(0, 1, .int 0), (0, 2, .int 0)], [], [])
noncomputable def ax_t_94 : List ax_ct := [ax_c_94_0]
noncomputable def ax_w_94 : ax_D := ([(244, 7)], [(249, 256)])
noncomputable def ax_p_94 : ax_po := (some (some ((-15), 149)), [], false, false, [])
noncomputable def ax_s_94 : ax_s9 := (192, ax_sumc ax_sp ax_c_94_0 3, ax_w_94, ax_p_94)
/-! Model.ring ('ring', 3) -/
noncomputable def ax_c_95_0 : ax_ct := (0, (2, [((-2147483648), 2147483647), (1, 1)], [], [], []), [], [some (.ref 244), some (.retAddr 0), some (.retAddr 1), none], [(0, 1, .int 0), (0, 2, .int 0)], [], [])
noncomputable def ax_t_95 : List ax_ct := [ax_c_95_0]
noncomputable def ax_w_95 : ax_D := ([(244, 7)], [(249, 256)])
noncomputable def ax_p_95 : ax_po := (some (some ((-15), 149)), [], false, false, [])
noncomputable def ax_s_95 : ax_s9 := (192, ax_sumc ax_sp ax_c_95_0 3, ax_w_95, ax_p_95)
