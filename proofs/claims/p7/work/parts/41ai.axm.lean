/-! Model.ring ('ring', 6) -/
noncomputable def ax_c_98_0 : ax_ct := (0, (2, [((-2147483648), 2147483647), (4, 4)], [], [], []), [], [some (.ref 244), some (.retAddr 0), some (.retAddr 1), none], [(0, 1, .int 0), (0, 2, .int 0)], [], [])
noncomputable def ax_t_98 : List ax_ct := [ax_c_98_0]
noncomputable def ax_w_98 : ax_D := ([(244, 7)], [(249, 256)])
noncomputable def ax_p_98 : ax_po := (some (some ((-15), 149)), [], false, false, [])
noncomputable def ax_s_98 : ax_s9 := (192, ax_sumc ax_sp ax_c_98_0 3, ax_w_98, ax_p_98)
/-! Model.ring ('ring', 7) -/
noncomputable def ax_c_99_0 : ax_ct := (0, (2, [((-2147483648), 2147483647), (5, 5)], [], [], []), [], [some (.ref 244), some (.retAddr 0), some (.retAddr 1), none], [(0, 1, .int 0), (0, 2, .int 0)], [], [])
noncomputable def ax_t_99 : List ax_ct := [ax_c_99_0]
noncomputable def ax_w_99 : ax_D := ([(244, 7)], [(249, 256)])
noncomputable def ax_p_99 : ax_po := (some (some ((-15), 149)), [], false, false, [])
noncomputable def ax_s_99 : ax_s9 := (192, ax_sumc ax_sp ax_c_99_0 3, ax_w_99, ax_p_99)
