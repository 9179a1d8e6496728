/-! .ring ('ring', 4) -/
noncomputable def ax_c_86_0 : ax_ct := (0, (4, [(0, 150), (0, 150), ((-2147483648), 2147483647), (2, 2)], [], [], [(2, 3, 0)]), [(14, .int 16, .retAddr 3), (14, .int 12, .retAddr 2)], [some (.ref 0), some (.retAddr 0), some (.retAddr 1), none], [(0, 1, .int 0), (0, 2, .int 0), (1, 14, .int 12), (1, 14, .int 16)], [], [])
noncomputable def ax_t_86 : List ax_ct := [ax_c_86_0]
noncomputable def ax_w_86 : ax_D := ([(14, 16)], [(17, 21), (24, 175)])
noncomputable def ax_p_86 : ax_po := (some (some ((-15), 149)), [], true, false, [])
noncomputable def ax_s_86 : ax_s9 := (117, ax_sumc ax_sp ax_c_86_0 5, ax_w_86, ax_p_86)
noncomputable def ax_l_86 : ax_Y := [ax_s_80, ax_s_83, ax_s_81, ax_s_82, ax_s_79]
set_option maxRecDepth 1000000 in
theorem ax_k_86_0 : ax_cr9 ax_w_86 ax_l_86 ax_t_86 117 5 40000 ax_p_86 ax_c_86_0 = true := by decide +kernel
theorem ax_y_86 {X : Nat × (Nat → Int32)} : ax_Y1 X ax_sp ax_rf ax_s_86 := ax_meth9 (c := ax_c_86_0) (T := ax_t_86) (ax_Yc ax_y_80 (ax_Yc ax_y_83 (ax_Yc ax_y_81 (ax_Yc ax_y_82 (ax_Yc ax_y_79 ax_Yn))))) ⟨ax_k_86_0, trivial⟩ List.mem_cons_self rfl
/-! .ring ('ring', 5) -/
noncomputable def ax_c_87_0 : ax_ct := (0, (4, [(0, 150), (0, 150), ((-2147483648), 2147483647), (3, 3)], [], [], [(2, 3, 0)]), [(14, .int 16, .retAddr 3), (14, .int 12, .retAddr 2)], [some (.ref 0), some (.retAddr 0), some (.retAddr 1), none], [(0, 1, .int 0), (0, 2, .int 0), (1, 14, .int 12), (1, 14, .int 16)], [], [])
noncomputable def ax_t_87 : List ax_ct := [ax_c_87_0]
noncomputable def ax_w_87 : ax_D := ([(14, 16)], [(17, 21), (24, 175)])
noncomputable def ax_p_87 : ax_po := (some (some ((-15), 149)), [], true, false, [])
noncomputable def ax_s_87 : ax_s9 := (117, ax_sumc ax_sp ax_c_87_0 5, ax_w_87, ax_p_87)
noncomputable def ax_l_87 : ax_Y := [ax_s_80, ax_s_83, ax_s_81, ax_s_82, ax_s_79]
set_option maxRecDepth 1000000 in
theorem ax_k_87_0 : ax_cr9 ax_w_87 ax_l_87 ax_t_87 117 5 40000 ax_p_87 ax_c_87_0 = true := by decide +kernel
theorem ax_y_87 {X : Nat × (Nat → Int32)} : ax_Y1 X ax_sp ax_rf ax_s_87 := ax_meth9 (c := ax_c_87_0) (T := ax_t_87) (ax_Yc ax_y_80 (ax_Yc ax_y_83 (ax_Yc ax_y_81 (ax_Yc ax_y_82 (ax_Yc ax_y_79 ax_Yn))))) ⟨ax_k_87_0, trivial⟩ List.mem_cons_self rfl
/-! .ring ('ring', 6) -/
noncomputable def ax_c_88_0 : ax_ct := (0, (4, [(0, 150), (0, 150), ((-2147483648), 2147483647), (4, 4)], [], [], [(2, 3, 0)]), [(14, .int 16, .retAddr 3), (14, .int 12, .retAddr 2)], [some (.ref 0), some (.retAddr 0), some (.retAddr 1), none], [(0, 1, .int 0), (0, 2, .int 0), (1, 14, .int 12), (1, 14, .int 16)], [], [])
noncomputable def ax_t_88 : List ax_ct := [ax_c_88_0]
noncomputable def ax_w_88 : ax_D := ([(14, 16)], [(17, 21), (24, 175)])
noncomputable def ax_p_88 : ax_po := (some (some ((-15), 149)), [], true, false, [])
noncomputable def ax_s_88 : ax_s9 := (117, ax_sumc ax_sp ax_c_88_0 5, ax_w_88, ax_p_88)
noncomputable def ax_l_88 : ax_Y := [ax_s_80, ax_s_83, ax_s_81, ax_s_82, ax_s_79]
set_option maxRecDepth 1000000 in
theorem ax_k_88_0 : ax_cr9 ax_w_88 ax_l_88 ax_t_88 117 5 40000 ax_p_88 ax_c_88_0 = true := by decide +kernel
theorem ax_y_88 {X : Nat × (Nat → Int32)} : ax_Y1 X ax_sp ax_rf ax_s_88 := ax_meth9 (c := ax_c_88_0) (T := ax_t_88) (ax_Yc ax_y_80 (ax_Yc ax_y_83 (ax_Yc ax_y_81 (ax_Yc ax_y_82 (ax_Yc ax_y_79 ax_Yn))))) ⟨ax_k_88_0, trivial⟩ List.mem_cons_self rfl
