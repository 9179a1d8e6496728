/-! .ring ('ring', 3) -/
noncomputable def ax_c_85_0 : ax_ct := (0, (4, [(0, 150), (0, 150), ((-2147483648), 2147483647), (1, 1)], [], [], [(2, 3, 0)]), [(14, .int 16, .retAddr 3), (14, .int 12, .retAddr 2)], [some (.ref 0), some (.retAddr 0), some (.retAddr 1), none], [(0, 1, .int 0), (0, 2, .int 0), (1, 14, .int 12), (1, 14, .int 16)], [], [])
noncomputable def ax_t_85 : List ax_ct := [ax_c_85_0]
noncomputable def ax_w_85 : ax_D := ([(14, 16)], [(17, 21), (24, 175)])
noncomputable def ax_p_85 : ax_po := (some (some ((-15), 149)), [], true, false, [])
noncomputable def ax_s_85 : ax_s9 := (117, ax_sumc ax_sp ax_c_85_0 5, ax_w_85, ax_p_85)
noncomputable def ax_l_85 : ax_Y := [ax_s_82, ax_s_81, ax_s_80, ax_s_83, ax_s_79]
set_option maxRecDepth 1000000 in
theorem ax_k_85_0 : ax_cr9 ax_w_85 ax_l_85 ax_t_85 117 5 40000 ax_p_85 ax_c_85_0 = true := by decide +kernel
theorem ax_y_85 {X : Nat × (Nat → Int32)} : ax_Y1 X ax_sp ax_rf ax_s_85 := ax_meth9 (c := ax_c_85_0) (T := ax_t_85) (ax_Yc ax_y_82 (ax_Yc ax_y_81 (ax_Yc ax_y_80 (ax_Yc ax_y_83 (ax_Yc ax_y_79 ax_Yn))))) ⟨ax_k_85_0, trivial⟩ List.mem_cons_self rfl
/-! .ring ('ring', 4) -/
noncomputable def ax_c_86_0 : ax_ct := (0, (4, [(0, 150), (0, 150), ((-2147483648), 2147483647), (2, 2)], [], [], [(2, 3, 0)]), [(14, .int 16, .retAddr 3), (14, .int 12, .retAddr 2)], [some (.ref 0), some (.retAddr 0), some (.retAddr 1), none], [(0, 1, .int 0), (0, 2, .int 0), (1, 14, .int 12), (1, 14, .int 16)], [], [])
noncomputable def ax_t_86 : List ax_ct := [ax_c_86_0]
noncomputable def ax_w_86 : ax_D := ([(14, 16)], [(17, 21), (24, 175)])
noncomputable def ax_p_86 : ax_po := (some (some ((-15), 149)), [], true, false, [])
noncomputable def ax_s_86 : ax_s9 := (117, ax_sumc ax_sp ax_c_86_0 5, ax_w_86, ax_p_86)
noncomputable def ax_l_86 : ax_Y := [ax_s_82, ax_s_81, ax_s_80, ax_s_83, ax_s_79]
set_option maxRecDepth 1000000 in
theorem ax_k_86_0 : ax_cr9 ax_w_86 ax_l_86 ax_t_86 117 5 40000 ax_p_86 ax_c_86_0 = true := by decide +kernel
theorem ax_y_86 {X : Nat × (Nat → Int32)} : ax_Y1 X ax_sp ax_rf ax_s_86 := ax_meth9 (c := ax_c_86_0) (T := ax_t_86) (ax_Yc ax_y_82 (ax_Yc ax_y_81 (ax_Yc ax_y_80 (ax_Yc ax_y_83 (ax_Yc ax_y_79 ax_Yn))))) ⟨ax_k_86_0, trivial⟩ List.mem_cons_self rfl
