/-! $Reader.sum ((8, 24),) -/
noncomputable def ax_c_112_0 : ax_ct := (0, (3, [(24, 173), (1, 150), (0, 12)], [], [], []), [(15, .int 0, .float 2), (14, .int 16, .retAddr 1), (1, .int 4, .retAddr 0)], [some (.ref 15), some (.int 8), none, none, none, none], [(1, 1, .int 4), (1, 14, .int 16), (1, 15, .int 0)], [(false, .int 20000), (false, .int 0)], [])
noncomputable def ax_c_112_1 : ax_ct := (8, (6, [(24, 173), (1, 150), (0, 12), (0, 80), ((-2147483648), 2147483647), (8, 8)], [], [], []), [(15, .int 0, .float 5), (14, .int 16, .retAddr 4), (1, .int 4, .retAddr 3)], [some (.ref 15), some (.retAddr 0), some (.retAddr 1), some (.retAddr 2), none, none], [(0, 1, .int 0), (0, 2, .int 0), (0, 3, .int 0), (1, 1, .int 4), (1, 14, .int 16), (1, 15, .int 0)], [(false, .int 9992), (true, .retAddr 2)], [])
noncomputable def ax_t_112 : List ax_ct := [ax_c_112_0, ax_c_112_1]
noncomputable def ax_w_112 : ax_D := ([(15, 2), (15, 3)], [])
noncomputable def ax_p_112 : ax_po := (some (some ((-2147483648), 2147483647)), [], false, false, [])
noncomputable def ax_s_112 : ax_s9 := (70, ax_sumc ax_sp ax_c_112_0 4, ax_w_112, ax_p_112)
noncomputable def ax_l_112 : ax_Y := [ax_s_111]
set_option maxRecDepth 1000000 in
theorem ax_k_112_0 : ax_cr9 ax_w_112 ax_l_112 ax_t_112 70 4 40000 ax_p_112 ax_c_112_0 = true := by decide +kernel
set_option maxRecDepth 1000000 in
theorem ax_k_112_1 : ax_cr9 ax_w_112 ax_l_112 ax_t_112 70 4 40000 ax_p_112 ax_c_112_1 = true := by decide +kernel
theorem ax_y_112 {X : Nat × (Nat → Int32)} : ax_Y1 X ax_sp ax_rf ax_s_112 := ax_meth9 (c := ax_c_112_0) (T := ax_t_112) (ax_Yc ax_y_111 ax_Yn) ⟨ax_k_112_0, ⟨ax_k_112_1, trivial⟩⟩ List.mem_cons_self rfl
/-! $Reader.choice ((8, 24),) -/
noncomputable def ax_c_113_0 : ax_ct := (0, (3, [(24, 173), (1, 150), (0, 12)], [], [], []), [(15, .int 0, .float 2), (14, .int 16, .retAddr 1), (1, .int 4, .retAddr 0)], [some (.ref 15), some (.int 8), none, none, none, none], [(1, 1, .int 4), (1, 14, .int 16), (1, 15, .int 0)], [], [])
noncomputable def ax_t_113 : List ax_ct := [ax_c_113_0]
noncomputable def ax_w_113 : ax_D := ([(15, 2), (15, 3)], [])
noncomputable def ax_p_113 : ax_po := (some (some ((-2147483648), 2147483647)), [], false, false, [])
noncomputable def ax_s_113 : ax_s9 := (74, ax_sumc ax_sp ax_c_113_0 5, ax_w_113, ax_p_113)
noncomputable def ax_l_113 : ax_Y := [ax_s_109, ax_s_112]
set_option maxRecDepth 1000000 in
theorem ax_k_113_0 : ax_cr9 ax_w_113 ax_l_113 ax_t_113 74 5 40000 ax_p_113 ax_c_113_0 = true := by decide +kernel
theorem ax_y_113 {X : Nat × (Nat → Int32)} : ax_Y1 X ax_sp ax_rf ax_s_113 := ax_meth9 (c := ax_c_113_0) (T := ax_t_113) (ax_Yc ax_y_109 (ax_Yc ax_y_112 ax_Yn)) ⟨ax_k_113_0, trivial⟩ List.mem_cons_self rfl
/-! $Reader.atom ((7, 24),) -/
noncomputable def ax_c_114_0 : ax_ct := (0, (3, [(24, 173), (1, 150), (0, 12)], [], [], []), [(15, .int 0, .float 2), (14, .int 16, .retAddr 1), (1, .int 4, .retAddr 0)], [some (.ref 15), some (.int 7), none, none], [(1, 1, .int 4), (1, 14, .int 16), (1, 15, .int 0)], [], [])
noncomputable def ax_t_114 : List ax_ct := [ax_c_114_0]
noncomputable def ax_w_114 : ax_D := ([(15, 2), (15, 3)], [])
noncomputable def ax_p_114 : ax_po := (some (some ((-2147483648), 2147483647)), [], false, false, [])
noncomputable def ax_s_114 : ax_s9 := (73, ax_sumc ax_sp ax_c_114_0 6, ax_w_114, ax_p_114)
noncomputable def ax_l_114 : ax_Y := [ax_s_109, ax_s_112, ax_s_113]
set_option maxRecDepth 1000000 in
theorem ax_k_114_0 : ax_cr9 ax_w_114 ax_l_114 ax_t_114 73 6 40000 ax_p_114 ax_c_114_0 = true := by decide +kernel
theorem ax_y_114 {X : Nat × (Nat → Int32)} : ax_Y1 X ax_sp ax_rf ax_s_114 := ax_meth9 (c := ax_c_114_0) (T := ax_t_114) (ax_Yc ax_y_109 (ax_Yc ax_y_112 (ax_Yc ax_y_113 ax_Yn))) ⟨ax_k_114_0, trivial⟩ List.mem_cons_self rfl
/-! $Reader.product ((7, 24),) -/
noncomputable def ax_c_115_0 : ax_ct := (0, (3, [(24, 173), (1, 150), (0, 12)], [], [], []), [(15, .int 0, .float 2), (14, .int 16, .retAddr 1), (1, .int 4, .retAddr 0)], [some (.ref 15), some (.int 7), none, none, none, none], [(1, 1, .int 4), (1, 14, .int 16), (1, 15, .int 0)], [(false, .int 20000), (false, .int 0)], [])
noncomputable def ax_c_115_1 : ax_ct := (8, (6, [(24, 173), (1, 150), (0, 12), (0, 80), ((-2147483648), 2147483647), (7, 7)], [], [], []), [(15, .int 0, .float 5), (14, .int 16, .retAddr 4), (1, .int 4, .retAddr 3)], [some (.ref 15), some (.retAddr 0), some (.retAddr 1), some (.retAddr 2), none, none], [(0, 1, .int 0), (0, 2, .int 0), (0, 3, .int 0), (1, 1, .int 4), (1, 14, .int 16), (1, 15, .int 0)], [(false, .int 9992), (true, .retAddr 2)], [])
noncomputable def ax_t_115 : List ax_ct := [ax_c_115_0, ax_c_115_1]
noncomputable def ax_w_115 : ax_D := ([(15, 2), (15, 3)], [])
noncomputable def ax_p_115 : ax_po := (some (some ((-2147483648), 2147483647)), [], false, false, [])
noncomputable def ax_s_115 : ax_s9 := (71, ax_sumc ax_sp ax_c_115_0 7, ax_w_115, ax_p_115)
noncomputable def ax_l_115 : ax_Y := [ax_s_114]
set_option maxRecDepth 1000000 in
theorem ax_k_115_0 : ax_cr9 ax_w_115 ax_l_115 ax_t_115 71 7 40000 ax_p_115 ax_c_115_0 = true := by decide +kernel
set_option maxRecDepth 1000000 in
theorem ax_k_115_1 : ax_cr9 ax_w_115 ax_l_115 ax_t_115 71 7 40000 ax_p_115 ax_c_115_1 = true := by decide +kernel
theorem ax_y_115 {X : Nat × (Nat → Int32)} : ax_Y1 X ax_sp ax_rf ax_s_115 := ax_meth9 (c := ax_c_115_0) (T := ax_t_115) (ax_Yc ax_y_114 ax_Yn) ⟨ax_k_115_0, ⟨ax_k_115_1, trivial⟩⟩ List.mem_cons_self rfl
/-! $Reader.sum ((7, 24),) -/
noncomputable def ax_c_116_0 : ax_ct := (0, (3, [(24, 173), (1, 150), (0, 12)], [], [], []), [(15, .int 0, .float 2), (14, .int 16, .retAddr 1), (1, .int 4, .retAddr 0)], [some (.ref 15), some (.int 7), none, none, none, none], [(1, 1, .int 4), (1, 14, .int 16), (1, 15, .int 0)], [(false, .int 20000), (false, .int 0)], [])
noncomputable def ax_c_116_1 : ax_ct := (8, (6, [(24, 173), (1, 150), (0, 12), (0, 80), ((-2147483648), 2147483647), (7, 7)], [], [], []), [(15, .int 0, .float 5), (14, .int 16, .retAddr 4), (1, .int 4, .retAddr 3)], [some (.ref 15), some (.retAddr 0), some (.retAddr 1), some (.retAddr 2), none, none], [(0, 1, .int 0), (0, 2, .int 0), (0, 3, .int 0), (1, 1, .int 4), (1, 14, .int 16), (1, 15, .int 0)], [(false, .int 9992), (true, .retAddr 2)], [])
noncomputable def ax_t_116 : List ax_ct := [ax_c_116_0, ax_c_116_1]
noncomputable def ax_w_116 : ax_D := ([(15, 2), (15, 3)], [])
noncomputable def ax_p_116 : ax_po := (some (some ((-2147483648), 2147483647)), [], false, false, [])
noncomputable def ax_s_116 : ax_s9 := (70, ax_sumc ax_sp ax_c_116_0 8, ax_w_116, ax_p_116)
noncomputable def ax_l_116 : ax_Y := [ax_s_115]
set_option maxRecDepth 1000000 in
theorem ax_k_116_0 : ax_cr9 ax_w_116 ax_l_116 ax_t_116 70 8 40000 ax_p_116 ax_c_116_0 = true := by decide +kernel
set_option maxRecDepth 1000000 in
theorem ax_k_116_1 : ax_cr9 ax_w_116 ax_l_116 ax_t_116 70 8 40000 ax_p_116 ax_c_116_1 = true := by decide +kernel
theorem ax_y_116 {X : Nat × (Nat → Int32)} : ax_Y1 X ax_sp ax_rf ax_s_116 := ax_meth9 (c := ax_c_116_0) (T := ax_t_116) (ax_Yc ax_y_115 ax_Yn) ⟨ax_k_116_0, ⟨ax_k_116_1, trivial⟩⟩ List.mem_cons_self rfl
/-! $Reader.choice ((7, 24),) -/
noncomputable def ax_c_117_0 : ax_ct := (0, (3, [(24, 173), (1, 150), (0, 12)], [], [], []), [(15, .int 0, .float 2), (14, .int 16, .retAddr 1), (1, .int 4, .retAddr 0)], [some (.ref 15), some (.int 7), none, none, none, none], [(1, 1, .int 4), (1, 14, .int 16), (1, 15, .int 0)], [], [])
noncomputable def ax_t_117 : List ax_ct := [ax_c_117_0]
noncomputable def ax_w_117 : ax_D := ([(15, 2), (15, 3)], [])
noncomputable def ax_p_117 : ax_po := (some (some ((-2147483648), 2147483647)), [], false, false, [])
noncomputable def ax_s_117 : ax_s9 := (74, ax_sumc ax_sp ax_c_117_0 9, ax_w_117, ax_p_117)
noncomputable def ax_l_117 : ax_Y := [ax_s_109, ax_s_116]
set_option maxRecDepth 1000000 in
theorem ax_k_117_0 : ax_cr9 ax_w_117 ax_l_117 ax_t_117 74 9 40000 ax_p_117 ax_c_117_0 = true := by decide +kernel
theorem ax_y_117 {X : Nat × (Nat → Int32)} : ax_Y1 X ax_sp ax_rf ax_s_117 := ax_meth9 (c := ax_c_117_0) (T := ax_t_117) (ax_Yc ax_y_109 (ax_Yc ax_y_116 ax_Yn)) ⟨ax_k_117_0, trivial⟩ List.mem_cons_self rfl
/-! $Reader.atom ((6, 24),) -/
noncomputable def ax_c_118_0 : ax_ct := (0, (3, [(24, 173), (1, 150), (0, 12)], [], [], []), [(15, .int 0, .float 2), (14, .int 16, .retAddr 1), (1, .int 4, .retAddr 0)], [some (.ref 15), some (.int 6), none, none], [(1, 1, .int 4), (1, 14, .int 16), (1, 15, .int 0)], [], [])
noncomputable def ax_t_118 : List ax_ct := [ax_c_118_0]
noncomputable def ax_w_118 : ax_D := ([(15, 2), (15, 3)], [])
noncomputable def ax_p_118 : ax_po := (some (some ((-2147483648), 2147483647)), [], false, false, [])
noncomputable def ax_s_118 : ax_s9 := (73, ax_sumc ax_sp ax_c_118_0 10, ax_w_118, ax_p_118)
noncomputable def ax_l_118 : ax_Y := [ax_s_109, ax_s_116, ax_s_117]
set_option maxRecDepth 1000000 in
theorem ax_k_118_0 : ax_cr9 ax_w_118 ax_l_118 ax_t_118 73 10 40000 ax_p_118 ax_c_118_0 = true := by decide +kernel
theorem ax_y_118 {X : Nat × (Nat → Int32)} : ax_Y1 X ax_sp ax_rf ax_s_118 := ax_meth9 (c := ax_c_118_0) (T := ax_t_118) (ax_Yc ax_y_109 (ax_Yc ax_y_116 (ax_Yc ax_y_117 ax_Yn))) ⟨ax_k_118_0, trivial⟩ List.mem_cons_self rfl
/-! $Reader.product ((6, 24),) -/
noncomputable def ax_c_119_0 : ax_ct := (0, (3, [(24, 173), (1, 150), (0, 12)], [], [], []), [(15, .int 0, .float 2), (14, .int 16, .retAddr 1), (1, .int 4, .retAddr 0)], [some (.ref 15), some (.int 6), none, none, none, none], [(1, 1, .int 4), (1, 14, .int 16), (1, 15, .int 0)], [(false, .int 20000), (false, .int 0)], [])
noncomputable def ax_c_119_1 : ax_ct := (8, (6, [(24, 173), (1, 150), (0, 12), (0, 80), ((-2147483648), 2147483647), (6, 6)], [], [], []), [(15, .int 0, .float 5), (14, .int 16, .retAddr 4), (1, .int 4, .retAddr 3)], [some (.ref 15), some (.retAddr 0), some (.retAddr 1), some (.retAddr 2), none, none], [(0, 1, .int 0), (0, 2, .int 0), (0, 3, .int 0), (1, 1, .int 4), (1, 14, .int 16), (1, 15, .int 0)], [(false, .int 9992), (true, .retAddr 2)], [])
noncomputable def ax_t_119 : List ax_ct := [ax_c_119_0, ax_c_119_1]
noncomputable def ax_w_119 : ax_D := ([(15, 2), (15, 3)], [])
noncomputable def ax_p_119 : ax_po := (some (some ((-2147483648), 2147483647)), [], false, false, [])
noncomputable def ax_s_119 : ax_s9 := (71, ax_sumc ax_sp ax_c_119_0 11, ax_w_119, ax_p_119)
noncomputable def ax_l_119 : ax_Y := [ax_s_118]
set_option maxRecDepth 1000000 in
theorem ax_k_119_0 : ax_cr9 ax_w_119 ax_l_119 ax_t_119 71 11 40000 ax_p_119 ax_c_119_0 = true := by decide +kernel
set_option maxRecDepth 1000000 in
theorem ax_k_119_1 : ax_cr9 ax_w_119 ax_l_119 ax_t_119 71 11 40000 ax_p_119 ax_c_119_1 = true := by decide +kernel
theorem ax_y_119 {X : Nat × (Nat → Int32)} : ax_Y1 X ax_sp ax_rf ax_s_119 := ax_meth9 (c := ax_c_119_0) (T := ax_t_119) (ax_Yc ax_y_118 ax_Yn) ⟨ax_k_119_0, ⟨ax_k_119_1, trivial⟩⟩ List.mem_cons_self rfl
/-! $Reader.sum ((6, 24),) -/
noncomputable def ax_c_120_0 : ax_ct := (0, (3, [(24, 173), (1, 150), (0, 12)], [], [], []), [(15, .int 0, .float 2), (14, .int 16, .retAddr 1), (1, .int 4, .retAddr 0)], [some (.ref 15), some (.int 6), none, none, none, none], [(1, 1, .int 4), (1, 14, .int 16), (1, 15, .int 0)], [(false, .int 20000), (false, .int 0)], [])
noncomputable def ax_c_120_1 : ax_ct := (8, (6, [(24, 173), (1, 150), (0, 12), (0, 80), ((-2147483648), 2147483647), (6, 6)], [], [], []), [(15, .int 0, .float 5), (14, .int 16, .retAddr 4), (1, .int 4, .retAddr 3)], [some (.ref 15), some (.retAddr 0), some (.retAddr 1), some (.retAddr 2), none, none], [(0, 1, .int 0), (0, 2, .int 0), (0, 3, .int 0), (1, 1, .int 4), (1, 14, .int 16), (1, 15, .int 0)], [(false, .int 9992), (true, .retAddr 2)], [])
noncomputable def ax_t_120 : List ax_ct := [ax_c_120_0, ax_c_120_1]
noncomputable def ax_w_120 : ax_D := ([(15, 2), (15, 3)], [])
noncomputable def ax_p_120 : ax_po := (some (some ((-2147483648), 2147483647)), [], false, false, [])
noncomputable def ax_s_120 : ax_s9 := (70, ax_sumc ax_sp ax_c_120_0 12, ax_w_120, ax_p_120)
noncomputable def ax_l_120 : ax_Y := [ax_s_119]
set_option maxRecDepth 1000000 in
theorem ax_k_120_0 : ax_cr9 ax_w_120 ax_l_120 ax_t_120 70 12 40000 ax_p_120 ax_c_120_0 = true := by decide +kernel
set_option maxRecDepth 1000000 in
theorem ax_k_120_1 : ax_cr9 ax_w_120 ax_l_120 ax_t_120 70 12 40000 ax_p_120 ax_c_120_1 = true := by decide +kernel
theorem ax_y_120 {X : Nat × (Nat → Int32)} : ax_Y1 X ax_sp ax_rf ax_s_120 := ax_meth9 (c := ax_c_120_0) (T := ax_t_120) (ax_Yc ax_y_119 ax_Yn) ⟨ax_k_120_0, ⟨ax_k_120_1, trivial⟩⟩ List.mem_cons_self rfl
/-! $Reader.choice ((6, 24),) -/
noncomputable def ax_c_121_0 : ax_ct := (0, (3, [(24, 173), (1, 150), (0, 12)], [], [], []), [(15, .int 0, .float 2), (14, .int 16, .retAddr 1), (1, .int 4, .retAddr 0)], [some (.ref 15), some (.int 6), none, none, none, none], [(1, 1, .int 4), (1, 14, .int 16), (1, 15, .int 0)], [], [])
noncomputable def ax_t_121 : List ax_ct := [ax_c_121_0]
noncomputable def ax_w_121 : ax_D := ([(15, 2), (15, 3)], [])
noncomputable def ax_p_121 : ax_po := (some (some ((-2147483648), 2147483647)), [], false, false, [])
noncomputable def ax_s_121 : ax_s9 := (74, ax_sumc ax_sp ax_c_121_0 13, ax_w_121, ax_p_121)
noncomputable def ax_l_121 : ax_Y := [ax_s_109, ax_s_120]
set_option maxRecDepth 1000000 in
theorem ax_k_121_0 : ax_cr9 ax_w_121 ax_l_121 ax_t_121 74 13 40000 ax_p_121 ax_c_121_0 = true := by decide +kernel
theorem ax_y_121 {X : Nat × (Nat → Int32)} : ax_Y1 X ax_sp ax_rf ax_s_121 := ax_meth9 (c := ax_c_121_0) (T := ax_t_121) (ax_Yc ax_y_109 (ax_Yc ax_y_120 ax_Yn)) ⟨ax_k_121_0, trivial⟩ List.mem_cons_self rfl
/-! $Reader.atom ((5, 24),) -/
noncomputable def ax_c_122_0 : ax_ct := (0, (3, [(24, 173), (1, 150), (0, 12)], [], [], []), [(15, .int 0, .float 2), (14, .int 16, .retAddr 1), (1, .int 4, .retAddr 0)], [some (.ref 15), some (.int 5), none, none], [(1, 1, .int 4), (1, 14, .int 16), (1, 15, .int 0)], [], [])
noncomputable def ax_t_122 : List ax_ct := [ax_c_122_0]
noncomputable def ax_w_122 : ax_D := ([(15, 2), (15, 3)], [])
noncomputable def ax_p_122 : ax_po := (some (some ((-2147483648), 2147483647)), [], false, false, [])
noncomputable def ax_s_122 : ax_s9 := (73, ax_sumc ax_sp ax_c_122_0 14, ax_w_122, ax_p_122)
noncomputable def ax_l_122 : ax_Y := [ax_s_109, ax_s_120, ax_s_121]
set_option maxRecDepth 1000000 in
theorem ax_k_122_0 : ax_cr9 ax_w_122 ax_l_122 ax_t_122 73 14 40000 ax_p_122 ax_c_122_0 = true := by decide +kernel
theorem ax_y_122 {X : Nat × (Nat → Int32)} : ax_Y1 X ax_sp ax_rf ax_s_122 := ax_meth9 (c := ax_c_122_0) (T := ax_t_122) (ax_Yc ax_y_109 (ax_Yc ax_y_120 (ax_Yc ax_y_121 ax_Yn))) ⟨ax_k_122_0, trivial⟩ List.mem_cons_self rfl
/-! $Reader.product ((5, 24),) -/
noncomputable def ax_c_123_0 : ax_ct := (0, (3, [(24, 173), (1, 150), (0, 12)], [], [], []), [(15, .int 0, .float 2), (14, .int 16, .retAddr 1), (1, .int 4, .retAddr 0)], [some (.ref 15), some (.int 5), none, none, none, none], [(1, 1, .int 4), (1, 14, .int 16), (1, 15, .int 0)], [(false, .int 20000), (false, .int 0)], [])
noncomputable def ax_c_123_1 : ax_ct := (8, (6, [(24, 173), (1, 150), (0, 12), (0, 80), ((-2147483648), 2147483647), (5, 5)], [], [], []), [(15, .int 0, .float 5), (14, .int 16, .retAddr 4), (1, .int 4, .retAddr 3)], [some (.ref 15), some (.retAddr 0), some (.retAddr 1), some (.retAddr 2), none, none], [(0, 1, .int 0), (0, 2, .int 0), (0, 3, .int 0), (1, 1, .int 4), (1, 14, .int 16), (1, 15, .int 0)], [(false, .int 9992), (true, .retAddr 2)], [])
noncomputable def ax_t_123 : List ax_ct := [ax_c_123_0, ax_c_123_1]
noncomputable def ax_w_123 : ax_D := ([(15, 2), (15, 3)], [])
noncomputable def ax_p_123 : ax_po := (some (some ((-2147483648), 2147483647)), [], false, false, [])
noncomputable def ax_s_123 : ax_s9 := (71, ax_sumc ax_sp ax_c_123_0 15, ax_w_123, ax_p_123)
noncomputable def ax_l_123 : ax_Y := [ax_s_122]
set_option maxRecDepth 1000000 in
theorem ax_k_123_0 : ax_cr9 ax_w_123 ax_l_123 ax_t_123 71 15 40000 ax_p_123 ax_c_123_0 = true := by decide +kernel
set_option maxRecDepth 1000000 in
theorem ax_k_123_1 : ax_cr9 ax_w_123 ax_l_123 ax_t_123 71 15 40000 ax_p_123 ax_c_123_1 = true := by decide +kernel
theorem ax_y_123 {X : Nat × (Nat → Int32)} : ax_Y1 X ax_sp ax_rf ax_s_123 := ax_meth9 (c := ax_c_123_0) (T := ax_t_123) (ax_Yc ax_y_122 ax_Yn) ⟨ax_k_123_0, ⟨ax_k_123_1, trivial⟩⟩ List.mem_cons_self rfl
/-! $Reader.sum ((5, 24),) -/
noncomputable def ax_c_124_0 : ax_ct := (0, (3, [(24, 173), (1, 150), (0, 12)], [], [], []), [(15, .int 0, .float 2), (14, .int 16, .retAddr 1), (1, .int 4, .retAddr 0)], [some (.ref 15), some (.int 5), none, none, none, none], [(1, 1, .int 4), (1, 14, .int 16), (1, 15, .int 0)], [(false, .int 20000), (false, .int 0)], [])
noncomputable def ax_c_124_1 : ax_ct := (8, (6, [(24, 173), (1, 150), (0, 12), (0, 80), ((-2147483648), 2147483647), (5, 5)], [], [], []), [(15, .int 0, .float 5), (14, .int 16, .retAddr 4), (1, .int 4, .retAddr 3)], [some (.ref 15), some (.retAddr 0), some (.retAddr 1), some (.retAddr 2), none, none], [(0, 1, .int 0), (0, 2, .int 0), (0, 3, .int 0), (1, 1, .int 4), (1, 14, .int 16), (1, 15, .int 0)], [(false, .int 9992), (true, .retAddr 2)], [])
noncomputable def ax_t_124 : List ax_ct := [ax_c_124_0, ax_c_124_1]
noncomputable def ax_w_124 : ax_D := ([(15, 2), (15, 3)], [])
noncomputable def ax_p_124 : ax_po := (some (some ((-2147483648), 2147483647)), [], false, false, [])
noncomputable def ax_s_124 : ax_s9 := (70, ax_sumc ax_sp ax_c_124_0 16, ax_w_124, ax_p_124)
noncomputable def ax_l_124 : ax_Y := [ax_s_123]
set_option maxRecDepth 1000000 in
theorem ax_k_124_0 : ax_cr9 ax_w_124 ax_l_124 ax_t_124 70 16 40000 ax_p_124 ax_c_124_0 = true := by decide +kernel
set_option maxRecDepth 1000000 in
theorem ax_k_124_1 : ax_cr9 ax_w_124 ax_l_124 ax_t_124 70 16 40000 ax_p_124 ax_c_124_1 = true := by decide +kernel
theorem ax_y_124 {X : Nat × (Nat → Int32)} : ax_Y1 X ax_sp ax_rf ax_s_124 := ax_meth9 (c := ax_c_124_0) (T := ax_t_124) (ax_Yc ax_y_123 ax_Yn) ⟨ax_k_124_0, ⟨ax_k_124_1, trivial⟩⟩ List.mem_cons_self rfl
/-! $Reader.choice ((5, 24),) -/
noncomputable def ax_c_125_0 : ax_ct := (0, (3, [(24, 173), (1, 150), (0, 12)], [], [], []), [(15, .int 0, .float 2), (14, .int 16, .retAddr 1), (1, .int 4, .retAddr 0)], [some (.ref 15), some (.int 5), none, none, none, none], [(1, 1, .int 4), (1, 14, .int 16), (1, 15, .int 0)], [], [])
noncomputable def ax_t_125 : List ax_ct := [ax_c_125_0]
noncomputable def ax_w_125 : ax_D := ([(15, 2), (15, 3)], [])
noncomputable def ax_p_125 : ax_po := (some (some ((-2147483648), 2147483647)), [], false, false, [])
noncomputable def ax_s_125 : ax_s9 := (74, ax_sumc ax_sp ax_c_125_0 17, ax_w_125, ax_p_125)
noncomputable def ax_l_125 : ax_Y := [ax_s_109, ax_s_124]
set_option maxRecDepth 1000000 in
theorem ax_k_125_0 : ax_cr9 ax_w_125 ax_l_125 ax_t_125 74 17 40000 ax_p_125 ax_c_125_0 = true := by decide +kernel
theorem ax_y_125 {X : Nat × (Nat → Int32)} : ax_Y1 X ax_sp ax_rf ax_s_125 := ax_meth9 (c := ax_c_125_0) (T := ax_t_125) (ax_Yc ax_y_109 (ax_Yc ax_y_124 ax_Yn)) ⟨ax_k_125_0, trivial⟩ List.mem_cons_self rfl
/-! $Reader.atom ((4, 24),) -/
noncomputable def ax_c_126_0 : ax_ct := (0, (3, [(24, 173), (1, 150), (0, 12)], [], [], []), [(15, .int 0, .float 2), (14, .int 16, .retAddr 1), (1, .int 4, .retAddr 0)], [some (.ref 15), some (.int 4), none, none], [(1, 1, .int 4), (1, 14, .int 16), (1, 15, .int 0)], [], [])
noncomputable def ax_t_126 : List ax_ct := [ax_c_126_0]
noncomputable def ax_w_126 : ax_D := ([(15, 2), (15, 3)], [])
noncomputable def ax_p_126 : ax_po := (some (some ((-2147483648), 2147483647)), [], false, false, [])
noncomputable def ax_s_126 : ax_s9 := (73, ax_sumc ax_sp ax_c_126_0 18, ax_w_126, ax_p_126)
noncomputable def ax_l_126 : ax_Y := [ax_s_109, ax_s_124, ax_s_125]
set_option maxRecDepth 1000000 in
theorem ax_k_126_0 : ax_cr9 ax_w_126 ax_l_126 ax_t_126 73 18 40000 ax_p_126 ax_c_126_0 = true := by decide +kernel
theorem ax_y_126 {X : Nat × (Nat → Int32)} : ax_Y1 X ax_sp ax_rf ax_s_126 := ax_meth9 (c := ax_c_126_0) (T := ax_t_126) (ax_Yc ax_y_109 (ax_Yc ax_y_124 (ax_Yc ax_y_125 ax_Yn))) ⟨ax_k_126_0, trivial⟩ List.mem_cons_self rfl
/-! $Reader.product ((4, 24),) -/
noncomputable def ax_c_127_0 : ax_ct := (0, (3, [(24, 173), (1, 150), (0, 12)], [], [], []), [(15, .int 0, .float 2), (14, .int 16, .retAddr 1), (1, .int 4, .retAddr 0)], [some (.ref 15), some (.int 4), none, none, none, none], [(1, 1, .int 4), (1, 14, .int 16), (1, 15, .int 0)], [(false, .int 20000), (false, .int 0)], [])
noncomputable def ax_c_127_1 : ax_ct := (8, (6, [(24, 173), (1, 150), (0, 12), (0, 80), ((-2147483648), 2147483647), (4, 4)], [], [], []), [(15, .int 0, .float 5), (14, .int 16, .retAddr 4), (1, .int 4, .retAddr 3)], [some (.ref 15), some (.retAddr 0), some (.retAddr 1), some (.retAddr 2), none, none], [(0, 1, .int 0), (0, 2, .int 0), (0, 3, .int 0), (1, 1, .int 4), (1, 14, .int 16), (1, 15, .int 0)], [(false, .int 9992), (true, .retAddr 2)], [])
noncomputable def ax_t_127 : List ax_ct := [ax_c_127_0, ax_c_127_1]
noncomputable def ax_w_127 : ax_D := ([(15, 2), (15, 3)], [])
noncomputable def ax_p_127 : ax_po := (some (some ((-2147483648), 2147483647)), [], false, false, [])
noncomputable def ax_s_127 : ax_s9 := (71, ax_sumc ax_sp ax_c_127_0 19, ax_w_127, ax_p_127)
noncomputable def ax_l_127 : ax_Y := [ax_s_126]
set_option maxRecDepth 1000000 in
theorem ax_k_127_0 : ax_cr9 ax_w_127 ax_l_127 ax_t_127 71 19 40000 ax_p_127 ax_c_127_0 = true := by decide +kernel
set_option maxRecDepth 1000000 in
theorem ax_k_127_1 : ax_cr9 ax_w_127 ax_l_127 ax_t_127 71 19 40000 ax_p_127 ax_c_127_1 = true := by decide +kernel
theorem ax_y_127 {X : Nat × (Nat → Int32)} : ax_Y1 X ax_sp ax_rf ax_s_127 := ax_meth9 (c := ax_c_127_0) (T := ax_t_127) (ax_Yc ax_y_126 ax_Yn) ⟨ax_k_127_0, ⟨ax_k_127_1, trivial⟩⟩ List.mem_cons_self rfl
/-! $Reader.sum ((4, 24),) -/
noncomputable def ax_c_128_0 : ax_ct := (0, (3, [(24, 173), (1, 150), (0, 12)], [], [], []), [(15, .int 0, .float 2), (14, .int 16, .retAddr 1), (1, .int 4, .retAddr 0)], [some (.ref 15), some (.int 4), none, none, none, none], [(1, 1, .int 4), (1, 14, .int 16), (1, 15, .int 0)], [(false, .int 20000), (false, .int 0)], [])
noncomputable def ax_c_128_1 : ax_ct := (8, (6, [(24, 173), (1, 150), (0, 12), (0, 80), ((-2147483648), 2147483647), (4, 4)], [], [], []), [(15, .int 0, .float 5), (14, .int 16, .retAddr 4), (1, .int 4, .retAddr 3)], [some (.ref 15), some (.retAddr 0), some (.retAddr 1), some (.retAddr 2), none, none], [(0, 1, .int 0), (0, 2, .int 0), (0, 3, .int 0), (1, 1, .int 4), (1, 14, .int 16), (1, 15, .int 0)], [(false, .int 9992), (true, .retAddr 2)], [])
noncomputable def ax_t_128 : List ax_ct := [ax_c_128_0, ax_c_128_1]
noncomputable def ax_w_128 : ax_D := ([(15, 2), (15, 3)], [])
noncomputable def ax_p_128 : ax_po := (some (some ((-2147483648), 2147483647)), [], false, false, [])
noncomputable def ax_s_128 : ax_s9 := (70, ax_sumc ax_sp ax_c_128_0 20, ax_w_128, ax_p_128)
noncomputable def ax_l_128 : ax_Y := [ax_s_127]
set_option maxRecDepth 1000000 in
theorem ax_k_128_0 : ax_cr9 ax_w_128 ax_l_128 ax_t_128 70 20 40000 ax_p_128 ax_c_128_0 = true := by decide +kernel
set_option maxRecDepth 1000000 in
theorem ax_k_128_1 : ax_cr9 ax_w_128 ax_l_128 ax_t_128 70 20 40000 ax_p_128 ax_c_128_1 = true := by decide +kernel
theorem ax_y_128 {X : Nat × (Nat → Int32)} : ax_Y1 X ax_sp ax_rf ax_s_128 := ax_meth9 (c := ax_c_128_0) (T := ax_t_128) (ax_Yc ax_y_127 ax_Yn) ⟨ax_k_128_0, ⟨ax_k_128_1, trivial⟩⟩ List.mem_cons_self rfl
/-! $Reader.choice ((4, 24),) -/
noncomputable def ax_c_129_0 : ax_ct := (0, (3, [(24, 173), (1, 150), (0, 12)], [], [], []), [(15, .int 0, .float 2), (14, .int 16, .retAddr 1), (1, .int 4, .retAddr 0)], [some (.ref 15), some (.int 4), none, none, none, none], [(1, 1, .int 4), (1, 14, .int 16), (1, 15, .int 0)], [], [])
noncomputable def ax_t_129 : List ax_ct := [ax_c_129_0]
noncomputable def ax_w_129 : ax_D := ([(15, 2), (15, 3)], [])
noncomputable def ax_p_129 : ax_po := (some (some ((-2147483648), 2147483647)), [], false, false, [])
noncomputable def ax_s_129 : ax_s9 := (74, ax_sumc ax_sp ax_c_129_0 21, ax_w_129, ax_p_129)
noncomputable def ax_l_129 : ax_Y := [ax_s_109, ax_s_128]
set_option maxRecDepth 1000000 in
theorem ax_k_129_0 : ax_cr9 ax_w_129 ax_l_129 ax_t_129 74 21 40000 ax_p_129 ax_c_129_0 = true := by decide +kernel
theorem ax_y_129 {X : Nat × (Nat → Int32)} : ax_Y1 X ax_sp ax_rf ax_s_129 := ax_meth9 (c := ax_c_129_0) (T := ax_t_129) (ax_Yc ax_y_109 (ax_Yc ax_y_128 ax_Yn)) ⟨ax_k_129_0, trivial⟩ List.mem_cons_self rfl
/-! $Reader.atom ((3, 24),) -/
noncomputable def ax_c_130_0 : ax_ct := (0, (3, [(24, 173), (1, 150), (0, 12)], [], [], []), [(15, .int 0, .float 2), (14, .int 16, .retAddr 1), (1, .int 4, .retAddr 0)], [some (.ref 15), some (.int 3), none, none], [(1, 1, .int 4), (1, 14, .int 16), (1, 15, .int 0)], [], [])
noncomputable def ax_t_130 : List ax_ct := [ax_c_130_0]
noncomputable def ax_w_130 : ax_D := ([(15, 2), (15, 3)], [])
noncomputable def ax_p_130 : ax_po := (some (some ((-2147483648), 2147483647)), [], false, false, [])
noncomputable def ax_s_130 : ax_s9 := (73, ax_sumc ax_sp ax_c_130_0 22, ax_w_130, ax_p_130)
noncomputable def ax_l_130 : ax_Y := [ax_s_109, ax_s_128, ax_s_129]
set_option maxRecDepth 1000000 in
theorem ax_k_130_0 : ax_cr9 ax_w_130 ax_l_130 ax_t_130 73 22 40000 ax_p_130 ax_c_130_0 = true := by decide +kernel
theorem ax_y_130 {X : Nat × (Nat → Int32)} : ax_Y1 X ax_sp ax_rf ax_s_130 := ax_meth9 (c := ax_c_130_0) (T := ax_t_130) (ax_Yc ax_y_109 (ax_Yc ax_y_128 (ax_Yc ax_y_129 ax_Yn))) ⟨ax_k_130_0, trivial⟩ List.mem_cons_self rfl
/-! $Reader.product ((3, 24),) -/
noncomputable def ax_c_131_0 : ax_ct := (0, (3, [(24, 173), (1, 150), (0, 12)], [], [], []), [(15, .int 0, .float 2), (14, .int 16, .retAddr 1), (1, .int 4, .retAddr 0)], [some (.ref 15), some (.int 3), none, none, none, none], [(1, 1, .int 4), (1, 14, .int 16), (1, 15, .int 0)], [(false, .int 20000), (false, .int 0)], [])
noncomputable def ax_c_131_1 : ax_ct := (8, (6, [(24, 173), (1, 150), (0, 12), (0, 80), ((-2147483648), 2147483647), (3, 3)], [], [], []), [(15, .int 0, .float 5), (14, .int 16, .retAddr 4), (1, .int 4, .retAddr 3)], [some (.ref 15), some (.retAddr 0), some (.retAddr 1), some (.retAddr 2), none, none], [(0, 1, .int 0), (0, 2, .int 0), (0, 3, .int 0), (1, 1, .int 4), (1, 14, .int 16), (1, 15, .int 0)], [(false, .int 9992), (true, .retAddr 2)], [])
noncomputable def ax_t_131 : List ax_ct := [ax_c_131_0, ax_c_131_1]
noncomputable def ax_w_131 : ax_D := ([(15, 2), (15, 3)], [])
noncomputable def ax_p_131 : ax_po := (some (some ((-2147483648), 2147483647)), [], false, false, [])
noncomputable def ax_s_131 : ax_s9 := (71, ax_sumc ax_sp ax_c_131_0 23, ax_w_131, ax_p_131)
noncomputable def ax_l_131 : ax_Y := [ax_s_130]
set_option maxRecDepth 1000000 in
theorem ax_k_131_0 : ax_cr9 ax_w_131 ax_l_131 ax_t_131 71 23 40000 ax_p_131 ax_c_131_0 = true := by decide +kernel
set_option maxRecDepth 1000000 in
theorem ax_k_131_1 : ax_cr9 ax_w_131 ax_l_131 ax_t_131 71 23 40000 ax_p_131 ax_c_131_1 = true := by decide +kernel
theorem ax_y_131 {X : Nat × (Nat → Int32)} : ax_Y1 X ax_sp ax_rf ax_s_131 := ax_meth9 (c := ax_c_131_0) (T := ax_t_131) (ax_Yc ax_y_130 ax_Yn) ⟨ax_k_131_0, ⟨ax_k_131_1, trivial⟩⟩ List.mem_cons_self rfl
/-! $Reader.sum ((3, 24),) -/
noncomputable def ax_c_132_0 : ax_ct := (0, (3, [(24, 173), (1, 150), (0, 12)], [], [], []), [(15, .int 0, .float 2), (14, .int 16, .retAddr 1), (1, .int 4, .retAddr 0)], [some (.ref 15), some (.int 3), none, none, none, none], [(1, 1, .int 4), (1, 14, .int 16), (1, 15, .int 0)], [(false, .int 20000), (false, .int 0)], [])
noncomputable def ax_c_132_1 : ax_ct := (8, (6, [(24, 173), (1, 150), (0, 12), (0, 80), ((-2147483648), 2147483647), (3, 3)], [], [], []), [(15, .int 0, .float 5), (14, .int 16, .retAddr 4), (1, .int 4, .retAddr 3)], [some (.ref 15), some (.retAddr 0), some (.retAddr 1), some (.retAddr 2), none, none], [(0, 1, .int 0), (0, 2, .int 0), (0, 3, .int 0), (1, 1, .int 4), (1, 14, .int 16), (1, 15, .int 0)], [(false, .int 9992), (true, .retAddr 2)], [])
noncomputable def ax_t_132 : List ax_ct := [ax_c_132_0, ax_c_132_1]
noncomputable def ax_w_132 : ax_D := ([(15, 2), (15, 3)], [])
noncomputable def ax_p_132 : ax_po := (some (some ((-2147483648), 2147483647)), [], false, false, [])
noncomputable def ax_s_132 : ax_s9 := (70, ax_sumc ax_sp ax_c_132_0 24, ax_w_132, ax_p_132)
noncomputable def ax_l_132 : ax_Y := [ax_s_131]
set_option maxRecDepth 1000000 in
theorem ax_k_132_0 : ax_cr9 ax_w_132 ax_l_132 ax_t_132 70 24 40000 ax_p_132 ax_c_132_0 = true := by decide +kernel
set_option maxRecDepth 1000000 in
theorem ax_k_132_1 : ax_cr9 ax_w_132 ax_l_132 ax_t_132 70 24 40000 ax_p_132 ax_c_132_1 = true := by decide +kernel
theorem ax_y_132 {X : Nat × (Nat → Int32)} : ax_Y1 X ax_sp ax_rf ax_s_132 := ax_meth9 (c := ax_c_132_0) (T := ax_t_132) (ax_Yc ax_y_131 ax_Yn) ⟨ax_k_132_0, ⟨ax_k_132_1, trivial⟩⟩ List.mem_cons_self rfl
/-! $Reader.choice ((3, 24),) -/
noncomputable def ax_c_133_0 : ax_ct := (0, (3, [(24, 173), (1, 150), (0, 12)], [], [], []), [(15, .int 0, .float 2), (14, .int 16, .retAddr 1), (1, .int 4, .retAddr 0)], [some (.ref 15), some (.int 3), none, none, none, none], [(1, 1, .int 4), (1, 14, .int 16), (1, 15, .int 0)], [], [])
noncomputable def ax_t_133 : List ax_ct := [ax_c_133_0]
noncomputable def ax_w_133 : ax_D := ([(15, 2), (15, 3)], [])
noncomputable def ax_p_133 : ax_po := (some (some ((-2147483648), 2147483647)), [], false, false, [])
noncomputable def ax_s_133 : ax_s9 := (74, ax_sumc ax_sp ax_c_133_0 25, ax_w_133, ax_p_133)
noncomputable def ax_l_133 : ax_Y := [ax_s_109, ax_s_132]
set_option maxRecDepth 1000000 in
theorem ax_k_133_0 : ax_cr9 ax_w_133 ax_l_133 ax_t_133 74 25 40000 ax_p_133 ax_c_133_0 = true := by decide +kernel
theorem ax_y_133 {X : Nat × (Nat → Int32)} : ax_Y1 X ax_sp ax_rf ax_s_133 := ax_meth9 (c := ax_c_133_0) (T := ax_t_133) (ax_Yc ax_y_109 (ax_Yc ax_y_132 ax_Yn)) ⟨ax_k_133_0, trivial⟩ List.mem_cons_self rfl
/-! $Reader.atom ((2, 24),) -/
noncomputable def ax_c_134_0 : ax_ct := (0, (3, [(24, 173), (1, 150), (0, 12)], [], [], []), [(15, .int 0, .float 2), (14, .int 16, .retAddr 1), (1, .int 4, .retAddr 0)], [some (.ref 15), some (.int 2), none, none], [(1, 1, .int 4), (1, 14, .int 16), (1, 15, .int 0)], [], [])
noncomputable def ax_t_134 : List ax_ct := [ax_c_134_0]
noncomputable def ax_w_134 : ax_D := ([(15, 2), (15, 3)], [])
noncomputable def ax_p_134 : ax_po := (some (some ((-2147483648), 2147483647)), [], false, false, [])
noncomputable def ax_s_134 : ax_s9 := (73, ax_sumc ax_sp ax_c_134_0 26, ax_w_134, ax_p_134)
noncomputable def ax_l_134 : ax_Y := [ax_s_109, ax_s_132, ax_s_133]
set_option maxRecDepth 1000000 in
theorem ax_k_134_0 : ax_cr9 ax_w_134 ax_l_134 ax_t_134 73 26 40000 ax_p_134 ax_c_134_0 = true := by decide +kernel
theorem ax_y_134 {X : Nat × (Nat → Int32)} : ax_Y1 X ax_sp ax_rf ax_s_134 := ax_meth9 (c := ax_c_134_0) (T := ax_t_134) (ax_Yc ax_y_109 (ax_Yc ax_y_132 (ax_Yc ax_y_133 ax_Yn))) ⟨ax_k_134_0, trivial⟩ List.mem_cons_self rfl
/-! $Reader.product ((2, 24),) -/
noncomputable def ax_c_135_0 : ax_ct := (0, (3, [(24, 173), (1, 150), (0, 12)], [], [], []), [(15, .int 0, .float 2), (14, .int 16, .retAddr 1), (1, .int 4, .retAddr 0)], [some (.ref 15), some (.int 2), none, none, none, none], [(1, 1, .int 4), (1, 14, .int 16), (1, 15, .int 0)], [(false, .int 20000), (false, .int 0)], [])
noncomputable def ax_c_135_1 : ax_ct := (8, (6, [(24, 173), (1, 150), (0, 12), (0, 80), ((-2147483648), 2147483647), (2, 2)], [], [], []), [(15, .int 0, .float 5), (14, .int 16, .retAddr 4), (1, .int 4, .retAddr 3)], [some (.ref 15), some (.retAddr 0), some (.retAddr 1), some (.retAddr 2), none, none], [(0, 1, .int 0), (0, 2, .int 0), (0, 3, .int 0), (1, 1, .int 4), (1, 14, .int 16), (1, 15, .int 0)], [(false, .int 9992), (true, .retAddr 2)], [])
noncomputable def ax_t_135 : List ax_ct := [ax_c_135_0, ax_c_135_1]
noncomputable def ax_w_135 : ax_D := ([(15, 2), (15, 3)], [])
noncomputable def ax_p_135 : ax_po := (some (some ((-2147483648), 2147483647)), [], false, false, [])
noncomputable def ax_s_135 : ax_s9 := (71, ax_sumc ax_sp ax_c_135_0 27, ax_w_135, ax_p_135)
noncomputable def ax_l_135 : ax_Y := [ax_s_134]
set_option maxRecDepth 1000000 in
theorem ax_k_135_0 : ax_cr9 ax_w_135 ax_l_135 ax_t_135 71 27 40000 ax_p_135 ax_c_135_0 = true := by decide +kernel
set_option maxRecDepth 1000000 in
theorem ax_k_135_1 : ax_cr9 ax_w_135 ax_l_135 ax_t_135 71 27 40000 ax_p_135 ax_c_135_1 = true := by decide +kernel
theorem ax_y_135 {X : Nat × (Nat → Int32)} : ax_Y1 X ax_sp ax_rf ax_s_135 := ax_meth9 (c := ax_c_135_0) (T := ax_t_135) (ax_Yc ax_y_134 ax_Yn) ⟨ax_k_135_0, ⟨ax_k_135_1, trivial⟩⟩ List.mem_cons_self rfl
/-! $Reader.sum ((2, 24),) -/
noncomputable def ax_c_136_0 : ax_ct := (0, (3, [(24, 173), (1, 150), (0, 12)], [], [], []), [(15, .int 0, .float 2), (14, .int 16, .retAddr 1), (1, .int 4, .retAddr 0)], [some (.ref 15), some (.int 2), none, none, none, none], [(1, 1, .int 4), (1, 14, .int 16), (1, 15, .int 0)], [(false, .int 20000), (false, .int 0)], [])
noncomputable def ax_c_136_1 : ax_ct := (8, (6, [(24, 173), (1, 150), (0, 12), (0, 80), ((-2147483648), 2147483647), (2, 2)], [], [], []), [(15, .int 0, .float 5), (14, .int 16, .retAddr 4), (1, .int 4, .retAddr 3)], [some (.ref 15), some (.retAddr 0), some (.retAddr 1), some (.retAddr 2), none, none], [(0, 1, .int 0), (0, 2, .int 0), (0, 3, .int 0), (1, 1, .int 4), (1, 14, .int 16), (1, 15, .int 0)], [(false, .int 9992), (true, .retAddr 2)], [])
noncomputable def ax_t_136 : List ax_ct := [ax_c_136_0, ax_c_136_1]
noncomputable def ax_w_136 : ax_D := ([(15, 2), (15, 3)], [])
noncomputable def ax_p_136 : ax_po := (some (some ((-2147483648), 2147483647)), [], false, false, [])
noncomputable def ax_s_136 : ax_s9 := (70, ax_sumc ax_sp ax_c_136_0 28, ax_w_136, ax_p_136)
noncomputable def ax_l_136 : ax_Y := [ax_s_135]
set_option maxRecDepth 1000000 in
theorem ax_k_136_0 : ax_cr9 ax_w_136 ax_l_136 ax_t_136 70 28 40000 ax_p_136 ax_c_136_0 = true := by decide +kernel
set_option maxRecDepth 1000000 in
theorem ax_k_136_1 : ax_cr9 ax_w_136 ax_l_136 ax_t_136 70 28 40000 ax_p_136 ax_c_136_1 = true := by decide +kernel
theorem ax_y_136 {X : Nat × (Nat → Int32)} : ax_Y1 X ax_sp ax_rf ax_s_136 := ax_meth9 (c := ax_c_136_0) (T := ax_t_136) (ax_Yc ax_y_135 ax_Yn) ⟨ax_k_136_0, ⟨ax_k_136_1, trivial⟩⟩ List.mem_cons_self rfl
/-! $Reader.choice ((2, 24),) -/
noncomputable def ax_c_137_0 : ax_ct := (0, (3, [(24, 173), (1, 150), (0, 12)], [], [], []), [(15, .int 0, .float 2), (14, .int 16, .retAddr 1), (1, .int 4, .retAddr 0)], [some (.ref 15), some (.int 2), none, none, none, none], [(1, 1, .int 4), (1, 14, .int 16), (1, 15, .int 0)], [], [])
noncomputable def ax_t_137 : List ax_ct := [ax_c_137_0]
noncomputable def ax_w_137 : ax_D := ([(15, 2), (15, 3)], [])
noncomputable def ax_p_137 : ax_po := (some (some ((-2147483648), 2147483647)), [], false, false, [])
noncomputable def ax_s_137 : ax_s9 := (74, ax_sumc ax_sp ax_c_137_0 29, ax_w_137, ax_p_137)
noncomputable def ax_l_137 : ax_Y := [ax_s_109, ax_s_136]
set_option maxRecDepth 1000000 in
theorem ax_k_137_0 : ax_cr9 ax_w_137 ax_l_137 ax_t_137 74 29 40000 ax_p_137 ax_c_137_0 = true := by decide +kernel
theorem ax_y_137 {X : Nat × (Nat → Int32)} : ax_Y1 X ax_sp ax_rf ax_s_137 := ax_meth9 (c := ax_c_137_0) (T := ax_t_137) (ax_Yc ax_y_109 (ax_Yc ax_y_136 ax_Yn)) ⟨ax_k_137_0, trivial⟩ List.mem_cons_self rfl
