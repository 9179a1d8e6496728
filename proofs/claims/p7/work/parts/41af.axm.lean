/-! .ring ('ring', 7) -/
noncomputable def ax_c_89_0 : ax_ct := (0, (4, [(0, 150), (0, 150), ((-2147483648), 2147483647), (5, 5)], [], [], [(2, 3, 0)]), [(14, .int 16, .retAddr 3), (14, .int 12, .retAddr 2)], [some (.ref 0), some (.retAddr 0), some (.retAddr 1), none], [(0, 1, .int 0), (0, 2, .int 0), (1, 14, .int 12), (1, 14, .int 16)], [], [])
noncomputable def ax_t_89 : List ax_ct := [ax_c_89_0]
noncomputable def ax_w_89 : ax_D := ([(14, 16)], [(17, 21), (24, 175)])
noncomputable def ax_p_89 : ax_po := (some (some ((-15), 149)), [], true, false, [])
noncomputable def ax_s_89 : ax_s9 := (117, ax_sumc ax_sp ax_c_89_0 5, ax_w_89, ax_p_89)
noncomputable def ax_l_89 : ax_Y := [ax_s_80, ax_s_83, ax_s_81, ax_s_82, ax_s_79]
set_option maxRecDepth 1000000 in
theorem ax_k_89_0 : ax_cr9 ax_w_89 ax_l_89 ax_t_89 117 5 40000 ax_p_89 ax_c_89_0 = true := by decide +kernel
theorem ax_y_89 {X : Nat × (Nat → Int32)} : ax_Y1 X ax_sp ax_rf ax_s_89 := ax_meth9 (c := ax_c_89_0) (T := ax_t_89) (ax_Yc ax_y_80 (ax_Yc ax_y_83 (ax_Yc ax_y_81 (ax_Yc ax_y_82 (ax_Yc ax_y_79 ax_Yn))))) ⟨ax_k_89_0, trivial⟩ List.mem_cons_self rfl
/-! .ring ('ring', 8) -/
noncomputable def ax_c_90_0 : ax_ct := (0, (4, [(0, 150), (0, 150), ((-2147483648), 2147483647), (6, 6)], [], [], [(2, 3, 0)]), [(14, .int 16, .retAddr 3), (14, .int 12, .retAddr 2)], [some (.ref 0), some (.retAddr 0), some (.retAddr 1), none], [(0, 1, .int 0), (0, 2, .int 0), (1, 14, .int 12), (1, 14, .int 16)], [], [])
noncomputable def ax_t_90 : List ax_ct := [ax_c_90_0]
noncomputable def ax_w_90 : ax_D := ([(14, 16)], [(17, 21), (24, 175)])
noncomputable def ax_p_90 : ax_po := (some (some ((-15), 149)), [], true, false, [])
noncomputable def ax_s_90 : ax_s9 := (117, ax_sumc ax_sp ax_c_90_0 5, ax_w_90, ax_p_90)
noncomputable def ax_l_90 : ax_Y := [ax_s_80, ax_s_83, ax_s_81, ax_s_82, ax_s_79]
set_option maxRecDepth 1000000 in
theorem ax_k_90_0 : ax_cr9 ax_w_90 ax_l_90 ax_t_90 117 5 40000 ax_p_90 ax_c_90_0 = true := by decide +kernel
theorem ax_y_90 {X : Nat × (Nat → Int32)} : ax_Y1 X ax_sp ax_rf ax_s_90 := ax_meth9 (c := ax_c_90_0) (T := ax_t_90) (ax_Yc ax_y_80 (ax_Yc ax_y_83 (ax_Yc ax_y_81 (ax_Yc ax_y_82 (ax_Yc ax_y_79 ax_Yn))))) ⟨ax_k_90_0, trivial⟩ List.mem_cons_self rfl
/-! .ring ('ring', 9) -/
noncomputable def ax_c_91_0 : ax_ct := (0, (4, [(0, 150), (0, 150), ((-2147483648), 2147483647), (7, 7)], [], [], [(2, 3, 0)]), [(14, .int 16, .retAddr 3), (14, .int 12, .retAddr 2)], [some (.ref 0), some (.retAddr 0), some (.retAddr 1), none], [(0, 1, .int 0), (0, 2, .int 0), (1, 14, .int 12), (1, 14, .int 16)], [], [])
noncomputable def ax_t_91 : List ax_ct := [ax_c_91_0]
noncomputable def ax_w_91 : ax_D := ([(14, 16)], [(17, 21), (24, 175)])
noncomputable def ax_p_91 : ax_po := (some (some ((-15), 149)), [], true, false, [])
noncomputable def ax_s_91 : ax_s9 := (117, ax_sumc ax_sp ax_c_91_0 5, ax_w_91, ax_p_91)
noncomputable def ax_l_91 : ax_Y := [ax_s_80, ax_s_83, ax_s_81, ax_s_82, ax_s_79]
set_option maxRecDepth 1000000 in
theorem ax_k_91_0 : ax_cr9 ax_w_91 ax_l_91 ax_t_91 117 5 40000 ax_p_91 ax_c_91_0 = true := by decide +kernel
theorem ax_y_91 {X : Nat × (Nat → Int32)} : ax_Y1 X ax_sp ax_rf ax_s_91 := ax_meth9 (c := ax_c_91_0) (T := ax_t_91) (ax_Yc ax_y_80 (ax_Yc ax_y_83 (ax_Yc ax_y_81 (ax_Yc ax_y_82 (ax_Yc ax_y_79 ax_Yn))))) ⟨ax_k_91_0, trivial⟩ List.mem_cons_self rfl
/-! Model.ring ('ring', 0) -/
noncomputable def ax_c_92_0 : ax_ct := (0, (2, [((-2147483648), 2147483647), ((-2147483648), (-1))], [], [], []), [], [some (.ref 244), some (.retAddr 0), some (.retAddr 1), none], [(0, 1, .int 0), (0, 2, .int 0)], [], [])
noncomputable def ax_t_92 : List ax_ct := [ax_c_92_0]
noncomputable def ax_w_92 : ax_D := ([], [])
noncomputable def ax_p_92 : ax_po := (some (some ((-1), (-1))), [], false, false, [])
noncomputable def ax_s_92 : ax_s9 := (192, ax_sumc ax_sp ax_c_92_0 1, ax_w_92, ax_p_92)
/-! Model.ring ('ring', 1) -/
noncomputable def ax_c_93_0 : ax_ct := (0, (2, [((-2147483648), 2147483647), (8, 2147483647)], [], [], []), [], [some (.ref 244), some (.retAddr 0), some (.retAddr 1), none], [(0, 1, .int 0), (0, 2, .int 0)], [], [])
noncomputable def ax_t_93 : List ax_ct := [ax_c_93_0]
noncomputable def ax_w_93 : ax_D := ([], [])
noncomputable def ax_p_93 : ax_po := (some (some ((-1), (-1))), [], false, false, [])
noncomputable def ax_s_93 : ax_s9 := (192, ax_sumc ax_sp ax_c_93_0 1, ax_w_93, ax_p_93)
