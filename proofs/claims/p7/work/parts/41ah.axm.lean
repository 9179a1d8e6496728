/-! Model.ring ('ring', 4) -/
noncomputable def ax_c_96_0 : ax_ct := (0, (2, [((-2147483648), 2147483647), (2, 2)], [], [], []), [], [some (.ref 244), some (.retAddr 0), some (.retAddr 1), none], [(0, 1, .int 0), (0, 2, .int 0)], [], [])
noncomputable def ax_t_96 : List ax_ct := [ax_c_96_0]
noncomputable def ax_w_96 : ax_D := ([(244, 7)], [(249, 256)])
noncomputable def ax_p_96 : ax_po := (some (some ((-15), 149)), [], false, false, [])
noncomputable def ax_s_96 : ax_s9 := (192, ax_sumc ax_sp ax_c_96_0 3, ax_w_96, ax_p_96)
/-! Model.ring ('ring', 5) -/
noncomputable def ax_c_97_0 : ax_ct := (0, (2, [((-2147483648), 2147483647), (3, 3)], [], [], []), [], [some (.ref 244), some (.retAddr 0), some (.retAddr 1), none], [(0, 1, .int 0), (0, 2, .int 0)], [], [])
noncomputable def ax_t_97 : List ax_ct := [ax_c_97_0]
noncomputable def ax_w_97 : ax_D := ([(244, 7)], [(249, 256)])
noncomputable def ax_p_97 : ax_po := (some (some ((-15), 149)), [], false, false, [])
noncomputable def ax_s_97 : ax_s9 := (192, ax_sumc ax_sp ax_c_97_0 3, ax_w_97, ax_p_97)
