/-! $Reader.atom ((1, 24),) -/
noncomputable def ax_c_138_0 : ax_ct := (0, (3, [(24, 173), (1, 150), (0, 12)], [], [], []), [(15, .int 0, .float 2), (14, .int 16, .retAddr 1), (1, .int 4, .retAddr 0)], [some (.ref 15), some (.int 1), none, none], [(1, 1, .int 4), (1, 14, .int 16), (1, 15, .int 0)], [], [])
noncomputable def ax_t_138 : List ax_ct := [ax_c_138_0]
noncomputable def ax_w_138 : ax_D := ([(15, 2), (15, 3)], [])
noncomputable def ax_p_138 : ax_po := (some (some ((-2147483648), 2147483647)), [], false, false, [])
noncomputable def ax_s_138 : ax_s9 := (73, ax_sumc ax_sp ax_c_138_0 30, ax_w_138, ax_p_138)
noncomputable def ax_l_138 : ax_Y := [ax_s_109, ax_s_136, ax_s_137]
set_option maxRecDepth 1000000 in
theorem ax_k_138_0 : ax_cr9 ax_w_138 ax_l_138 ax_t_138 73 30 40000 ax_p_138 ax_c_138_0 = true := by decide +kernel
theorem ax_y_138 {X : Nat × (Nat → Int32)} : ax_Y1 X ax_sp ax_rf ax_s_138 := ax_meth9 (c := ax_c_138_0) (T := ax_t_138) (ax_Yc ax_y_109 (ax_Yc ax_y_136 (ax_Yc ax_y_137 ax_Yn))) ⟨ax_k_138_0, trivial⟩ List.mem_cons_self rfl
/-! $Reader.product ((1, 24),) -/
noncomputable def ax_c_139_0 : ax_ct := (0, (3, [(24, 173), (1, 150), (0, 12)], [], [], []), [(15, .int 0, .float 2), (14, .int 16, .retAddr 1), (1, .int 4, .retAddr 0)], [some (.ref 15), some (.int 1), none, none, none, none], [(1, 1, .int 4), (1, 14, .int 16), (1, 15, .int 0)], [(false, .int 20000), (false, .int 0)], [])
noncomputable def ax_c_139_1 : ax_ct := (8, (6, [(24, 173), (1, 150), (0, 12), (0, 80), ((-2147483648), 2147483647), (1, 1)], [], [], []), [(15, .int 0, .float 5), (14, .int 16, .retAddr 4), (1, .int 4, .retAddr 3)], [some (.ref 15), some (.retAddr 0), some (.retAddr 1), some (.retAddr 2), none, none], [(0, 1, .int 0), (0, 2, .int 0), (0, 3, .int 0), (1, 1, .int 4), (1, 14, .int 16), (1, 15, .int 0)], [(false, .int 9992), (true, .retAddr 2)], [])
noncomputable def ax_t_139 : List ax_ct := [ax_c_139_0, ax_c_139_1]
noncomputable def ax_w_139 : ax_D := ([(15, 2), (15, 3)], [])
noncomputable def ax_p_139 : ax_po := (some (some ((-2147483648), 2147483647)), [], false, false, [])
noncomputable def ax_s_139 : ax_s9 := (71, ax_sumc ax_sp ax_c_139_0 31, ax_w_139, ax_p_139)
noncomputable def ax_l_139 : ax_Y := [ax_s_138]
set_option maxRecDepth 1000000 in
theorem ax_k_139_0 : ax_cr9 ax_w_139 ax_l_139 ax_t_139 71 31 40000 ax_p_139 ax_c_139_0 = true := by decide +kernel
set_option maxRecDepth 1000000 in
theorem ax_k_139_1 : ax_cr9 ax_w_139 ax_l_139 ax_t_139 71 31 40000 ax_p_139 ax_c_139_1 = true := by decide +kernel
theorem ax_y_139 {X : Nat × (Nat → Int32)} : ax_Y1 X ax_sp ax_rf ax_s_139 := ax_meth9 (c := ax_c_139_0) (T := ax_t_139) (ax_Yc ax_y_138 ax_Yn) ⟨ax_k_139_0, ⟨ax_k_139_1, trivial⟩⟩ List.mem_cons_self rfl
/-! $Reader.sum ((1, 24),) -/
noncomputable def ax_c_140_0 : ax_ct := (0, (3, [(24, 173), (1, 150), (0, 12)], [], [], []), [(15, .int 0, .float 2), (14, .int 16, .retAddr 1), (1, .int 4, .retAddr 0)], [some (.ref 15), some (.int 1), none, none, none, none], [(1, 1, .int 4), (1, 14, .int 16), (1, 15, .int 0)], [(false, .int 20000), (false, .int 0)], [])
noncomputable def ax_c_140_1 : ax_ct := (8, (6, [(24, 173), (1, 150), (0, 12), (0, 80), ((-2147483648), 2147483647), (1, 1)], [], [], []), [(15, .int 0, .float 5), (14, .int 16, .retAddr 4), (1, .int 4, .retAddr 3)], [some (.ref 15), some (.retAddr 0), some (.retAddr 1), some (.retAddr 2), none, none], [(0, 1, .int 0), (0, 2, .int 0), (0, 3, .int 0), (1, 1, .int 4), (1, 14, .int 16), (1, 15, .int 0)], [(false, .int 9992), (true, .retAddr 2)], [])
noncomputable def ax_t_140 : List ax_ct := [ax_c_140_0, ax_c_140_1]
noncomputable def ax_w_140 : ax_D := ([(15, 2), (15, 3)], [])
noncomputable def ax_p_140 : ax_po := (some (some ((-2147483648), 2147483647)), [], false, false, [])
noncomputable def ax_s_140 : ax_s9 := (70, ax_sumc ax_sp ax_c_140_0 32, ax_w_140, ax_p_140)
noncomputable def ax_l_140 : ax_Y := [ax_s_139]
set_option maxRecDepth 1000000 in
theorem ax_k_140_0 : ax_cr9 ax_w_140 ax_l_140 ax_t_140 70 32 40000 ax_p_140 ax_c_140_0 = true := by decide +kernel
set_option maxRecDepth 1000000 in
theorem ax_k_140_1 : ax_cr9 ax_w_140 ax_l_140 ax_t_140 70 32 40000 ax_p_140 ax_c_140_1 = true := by decide +kernel
theorem ax_y_140 {X : Nat × (Nat → Int32)} : ax_Y1 X ax_sp ax_rf ax_s_140 := ax_meth9 (c := ax_c_140_0) (T := ax_t_140) (ax_Yc ax_y_139 ax_Yn) ⟨ax_k_140_0, ⟨ax_k_140_1, trivial⟩⟩ List.mem_cons_self rfl
/-! $Reader.choice ((1, 24),) -/
noncomputable def ax_c_141_0 : ax_ct := (0, (3, [(24, 173), (1, 150), (0, 12)], [], [], []), [(15, .int 0, .float 2), (14, .int 16, .retAddr 1), (1, .int 4, .retAddr 0)], [some (.ref 15), some (.int 1), none, none, none, none], [(1, 1, .int 4), (1, 14, .int 16), (1, 15, .int 0)], [], [])
noncomputable def ax_t_141 : List ax_ct := [ax_c_141_0]
noncomputable def ax_w_141 : ax_D := ([(15, 2), (15, 3)], [])
noncomputable def ax_p_141 : ax_po := (some (some ((-2147483648), 2147483647)), [], false, false, [])
noncomputable def ax_s_141 : ax_s9 := (74, ax_sumc ax_sp ax_c_141_0 33, ax_w_141, ax_p_141)
noncomputable def ax_l_141 : ax_Y := [ax_s_109, ax_s_140]
set_option maxRecDepth 1000000 in
theorem ax_k_141_0 : ax_cr9 ax_w_141 ax_l_141 ax_t_141 74 33 40000 ax_p_141 ax_c_141_0 = true := by decide +kernel
theorem ax_y_141 {X : Nat × (Nat → Int32)} : ax_Y1 X ax_sp ax_rf ax_s_141 := ax_meth9 (c := ax_c_141_0) (T := ax_t_141) (ax_Yc ax_y_109 (ax_Yc ax_y_140 ax_Yn)) ⟨ax_k_141_0, trivial⟩ List.mem_cons_self rfl
/-! $Reader.atom ((0, 24),) -/
noncomputable def ax_c_142_0 : ax_ct := (0, (3, [(24, 173), (1, 150), (0, 12)], [], [], []), [(15, .int 0, .float 2), (14, .int 16, .retAddr 1), (1, .int 4, .retAddr 0)], [some (.ref 15), some (.int 0), none, none], [(1, 1, .int 4), (1, 14, .int 16), (1, 15, .int 0)], [], [])
noncomputable def ax_t_142 : List ax_ct := [ax_c_142_0]
noncomputable def ax_w_142 : ax_D := ([(15, 2), (15, 3)], [])
noncomputable def ax_p_142 : ax_po := (some (some ((-2147483648), 2147483647)), [], false, false, [])
noncomputable def ax_s_142 : ax_s9 := (73, ax_sumc ax_sp ax_c_142_0 34, ax_w_142, ax_p_142)
noncomputable def ax_l_142 : ax_Y := [ax_s_109, ax_s_140, ax_s_141]
set_option maxRecDepth 1000000 in
theorem ax_k_142_0 : ax_cr9 ax_w_142 ax_l_142 ax_t_142 73 34 40000 ax_p_142 ax_c_142_0 = true := by decide +kernel
theorem ax_y_142 {X : Nat × (Nat → Int32)} : ax_Y1 X ax_sp ax_rf ax_s_142 := ax_meth9 (c := ax_c_142_0) (T := ax_t_142) (ax_Yc ax_y_109 (ax_Yc ax_y_140 (ax_Yc ax_y_141 ax_Yn))) ⟨ax_k_142_0, trivial⟩ List.mem_cons_self rfl
/-! $Reader.product ((0, 24),) -/
noncomputable def ax_c_143_0 : ax_ct := (0, (3, [(24, 173), (1, 150), (0, 12)], [], [], []), [(15, .int 0, .float 2), (14, .int 16, .retAddr 1), (1, .int 4, .retAddr 0)], [some (.ref 15), some (.int 0), none, none, none, none], [(1, 1, .int 4), (1, 14, .int 16), (1, 15, .int 0)], [(false, .int 20000), (false, .int 0)], [])
noncomputable def ax_c_143_1 : ax_ct := (8, (6, [(24, 173), (1, 150), (0, 12), (0, 80), ((-2147483648), 2147483647), (0, 0)], [], [], []), [(15, .int 0, .float 5), (14, .int 16, .retAddr 4), (1, .int 4, .retAddr 3)], [some (.ref 15), some (.retAddr 0), some (.retAddr 1), some (.retAddr 2), none, none], [(0, 1, .int 0), (0, 2, .int 0), (0, 3, .int 0), (1, 1, .int 4), (1, 14, .int 16), (1, 15, .int 0)], [(false, .int 9992), (true, .retAddr 2)], [])
noncomputable def ax_t_143 : List ax_ct := [ax_c_143_0, ax_c_143_1]
noncomputable def ax_w_143 : ax_D := ([(15, 2), (15, 3)], [])
noncomputable def ax_p_143 : ax_po := (some (some ((-2147483648), 2147483647)), [], false, false, [])
noncomputable def ax_s_143 : ax_s9 := (71, ax_sumc ax_sp ax_c_143_0 35, ax_w_143, ax_p_143)
noncomputable def ax_l_143 : ax_Y := [ax_s_142]
set_option maxRecDepth 1000000 in
theorem ax_k_143_0 : ax_cr9 ax_w_143 ax_l_143 ax_t_143 71 35 40000 ax_p_143 ax_c_143_0 = true := by decide +kernel
set_option maxRecDepth 1000000 in
theorem ax_k_143_1 : ax_cr9 ax_w_143 ax_l_143 ax_t_143 71 35 40000 ax_p_143 ax_c_143_1 = true := by decide +kernel
theorem ax_y_143 {X : Nat × (Nat → Int32)} : ax_Y1 X ax_sp ax_rf ax_s_143 := ax_meth9 (c := ax_c_143_0) (T := ax_t_143) (ax_Yc ax_y_142 ax_Yn) ⟨ax_k_143_0, ⟨ax_k_143_1, trivial⟩⟩ List.mem_cons_self rfl
/-! $Reader.sum ((0, 24),) -/
noncomputable def ax_c_144_0 : ax_ct := (0, (3, [(24, 173), (1, 150), (0, 12)], [], [], []), [(15, .int 0, .float 2), (14, .int 16, .retAddr 1), (1, .int 4, .retAddr 0)], [some (.ref 15), some (.int 0), none, none, none, none], [(1, 1, .int 4), (1, 14, .int 16), (1, 15, .int 0)], [(false, .int 20000), (false, .int 0)], [])
noncomputable def ax_c_144_1 : ax_ct := (8, (6, [(24, 173), (1, 150), (0, 12), (0, 80), ((-2147483648), 2147483647), (0, 0)], [], [], []), [(15, .int 0, .float 5), (14, .int 16, .retAddr 4), (1, .int 4, .retAddr 3)], [some (.ref 15), some (.retAddr 0), some (.retAddr 1), some (.retAddr 2), none, none], [(0, 1, .int 0), (0, 2, .int 0), (0, 3, .int 0), (1, 1, .int 4), (1, 14, .int 16), (1, 15, .int 0)], [(false, .int 9992), (true, .retAddr 2)], [])
noncomputable def ax_t_144 : List ax_ct := [ax_c_144_0, ax_c_144_1]
noncomputable def ax_w_144 : ax_D := ([(15, 2), (15, 3)], [])
noncomputable def ax_p_144 : ax_po := (some (some ((-2147483648), 2147483647)), [], false, false, [])
noncomputable def ax_s_144 : ax_s9 := (70, ax_sumc ax_sp ax_c_144_0 36, ax_w_144, ax_p_144)
noncomputable def ax_l_144 : ax_Y := [ax_s_143]
set_option maxRecDepth 1000000 in
theorem ax_k_144_0 : ax_cr9 ax_w_144 ax_l_144 ax_t_144 70 36 40000 ax_p_144 ax_c_144_0 = true := by decide +kernel
set_option maxRecDepth 1000000 in
theorem ax_k_144_1 : ax_cr9 ax_w_144 ax_l_144 ax_t_144 70 36 40000 ax_p_144 ax_c_144_1 = true := by decide +kernel
theorem ax_y_144 {X : Nat × (Nat → Int32)} : ax_Y1 X ax_sp ax_rf ax_s_144 := ax_meth9 (c := ax_c_144_0) (T := ax_t_144) (ax_Yc ax_y_143 ax_Yn) ⟨ax_k_144_0, ⟨ax_k_144_1, trivial⟩⟩ List.mem_cons_self rfl
/-! $Book.valueBy ((),) -/
noncomputable def ax_c_145_0 : ax_ct := (0, (5, [(1, 1), (1, 150), (0, 12), (0, 149), (0, 149)], [], [], [(1, 3, 1)]), [(17, .retAddr 1, .retAddr 4), (14, .int 16, .retAddr 3), (1, .int 4, .retAddr 2)], [some (.ref 14), some (.retAddr 0), some (.retAddr 1)], [(0, 1, .int 0), (0, 2, .int 0), (1, 1, .int 4), (1, 14, .int 16), (1, 17, .retAddr 1)], [], [])
noncomputable def ax_t_145 : List ax_ct := [ax_c_145_0]
noncomputable def ax_w_145 : ax_D := ([(15, 0), (15, 1), (15, 2), (15, 3), (15, 4), (15, 5), (15, 6), (15, 7), (15, 8), (15, 9), (15, 10)], [(178, 179)])
noncomputable def ax_p_145 : ax_po := (some (some (0, 60)), [], false, false, [])
noncomputable def ax_s_145 : ax_s9 := (28, ax_sumc ax_sp ax_c_145_0 37, ax_w_145, ax_p_145)
noncomputable def ax_l_145 : ax_Y := [ax_s_3, ax_s_144]
set_option maxRecDepth 1000000 in
theorem ax_k_145_0 : ax_cr9 ax_w_145 ax_l_145 ax_t_145 28 37 40000 ax_p_145 ax_c_145_0 = true := by decide +kernel
theorem ax_y_145 {X : Nat × (Nat → Int32)} : ax_Y1 X ax_sp ax_rf ax_s_145 := ax_meth9 (c := ax_c_145_0) (T := ax_t_145) (ax_Yc ax_y_3 (ax_Yc ax_y_144 ax_Yn)) ⟨ax_k_145_0, trivial⟩ List.mem_cons_self rfl
/-! $Book.countOf ((),) -/
noncomputable def ax_c_146_0 : ax_ct := (0, (6, [(1, 1), (1, 150), (0, 12), (0, 13), (1, 150), (0, 149)], [], [], [(1, 4, 0), (0, 4, 1), (0, 1, 1)]), [(17, .retAddr 0, .retAddr 5), (14, .int 16, .retAddr 4), (1, .int 4, .retAddr 3)], [some (.ref 14), some (.retAddr 0), some (.retAddr 1), some (.retAddr 2), none], [(0, 1, .int 0), (0, 2, .int 0), (0, 3, .int 0), (1, 1, .int 4), (1, 14, .int 16), (1, 17, .retAddr 0)], [], [])
noncomputable def ax_t_146 : List ax_ct := [ax_c_146_0]
noncomputable def ax_w_146 : ax_D := ([(15, 0), (15, 1), (15, 2), (15, 3), (15, 4), (15, 5), (15, 6), (15, 7), (15, 8), (15, 9), (15, 10)], [(178, 179)])
noncomputable def ax_p_146 : ax_po := (some (some ((-2147483648), 2147483647)), [], false, false, [])
noncomputable def ax_s_146 : ax_s9 := (25, ax_sumc ax_sp ax_c_146_0 38, ax_w_146, ax_p_146)
noncomputable def ax_l_146 : ax_Y := [ax_s_107, ax_s_108, ax_s_145]
set_option maxRecDepth 1000000 in
theorem ax_k_146_0 : ax_cr9 ax_w_146 ax_l_146 ax_t_146 25 38 40000 ax_p_146 ax_c_146_0 = true := by decide +kernel
theorem ax_y_146 {X : Nat × (Nat → Int32)} : ax_Y1 X ax_sp ax_rf ax_s_146 := ax_meth9 (c := ax_c_146_0) (T := ax_t_146) (ax_Yc ax_y_107 (ax_Yc ax_y_108 (ax_Yc ax_y_145 ax_Yn))) ⟨ax_k_146_0, trivial⟩ List.mem_cons_self rfl
/-! .counts ('counts', 0) -/
noncomputable def ax_c_147_0 : ax_ct := (0, (3, [((-2147483648), 2147483647), ((-2147483648), 2147483647), ((-2147483648), 2147483647)], [], [], []), [], [some (.ref 0), some (.retAddr 0), some (.retAddr 1), some (.retAddr 2), none], [(0, 1, .int 0), (0, 2, .int 0), (0, 3, .int 0)], [], [])
noncomputable def ax_t_147 : List ax_ct := [ax_c_147_0]
noncomputable def ax_w_147 : ax_D := ([(15, 0), (15, 1), (15, 2), (15, 3), (15, 4), (15, 5), (15, 6), (15, 7), (15, 8), (15, 9), (15, 10)], [(178, 179)])
noncomputable def ax_p_147 : ax_po := (some (some ((-2147483648), 2147483647)), [], false, false, [])
noncomputable def ax_s_147 : ax_s9 := (120, ax_sumc ax_sp ax_c_147_0 39, ax_w_147, ax_p_147)
noncomputable def ax_l_147 : ax_Y := [ax_s_146]
set_option maxRecDepth 1000000 in
theorem ax_k_147_0 : ax_cr9 ax_w_147 ax_l_147 ax_t_147 120 39 40000 ax_p_147 ax_c_147_0 = true := by decide +kernel
theorem ax_y_147 {X : Nat × (Nat → Int32)} : ax_Y1 X ax_sp ax_rf ax_s_147 := ax_meth9 (c := ax_c_147_0) (T := ax_t_147) (ax_Yc ax_y_146 ax_Yn) ⟨ax_k_147_0, trivial⟩ List.mem_cons_self rfl
/-! Model.customIn ((),) -/
noncomputable def ax_c_148_0 : ax_ct := (0, (4, [(0, 150), (0, 12), (1, 150), (0, 520)], [], [], [(1, 3, 0)]), [(244, .int 7, .retAddr 3), (244, .int 1, .retAddr 2)], [some (.ref 244), some (.retAddr 0), some (.retAddr 1), none, none], [(0, 1, .int 0), (0, 2, .int 0), (1, 244, .int 1), (1, 244, .int 7)], [(false, .int 20000), (false, .int 0)], [])
noncomputable def ax_c_148_1 : ax_ct := (5, (6, [(0, 150), (0, 12), (0, 150), ((-1), 149), (1, 150), (0, 520)], [], [], [(3, 1, 0), (2, 5, 0), (2, 3, 1), (2, 1, 1), (1, 5, 0)]), [(244, .int 7, .retAddr 5), (244, .int 1, .retAddr 4)], [some (.ref 244), some (.retAddr 0), some (.retAddr 1), some (.retAddr 2), some (.retAddr 3)], [(0, 1, .int 0), (0, 2, .int 0), (0, 3, .int 0), (0, 4, .int 0), (1, 244, .int 1), (1, 244, .int 7)], [(false, .int 9995), (true, .retAddr 3)], [])
noncomputable def ax_t_148 : List ax_ct := [ax_c_148_0, ax_c_148_1]
noncomputable def ax_w_148 : ax_D := ([], [])
noncomputable def ax_p_148 : ax_po := (some (some ((-1), 149)), [], false, false, [])
noncomputable def ax_s_148 : ax_s9 := (195, ax_sumc ax_sp ax_c_148_0 1, ax_w_148, ax_p_148)
noncomputable def ax_l_148 : ax_Y := []
set_option maxRecDepth 1000000 in
theorem ax_k_148_0 : ax_cr9 ax_w_148 ax_l_148 ax_t_148 195 1 40000 ax_p_148 ax_c_148_0 = true := by decide +kernel
set_option maxRecDepth 1000000 in
theorem ax_k_148_1 : ax_cr9 ax_w_148 ax_l_148 ax_t_148 195 1 40000 ax_p_148 ax_c_148_1 = true := by decide +kernel
theorem ax_y_148 {X : Nat × (Nat → Int32)} : ax_Y1 X ax_sp ax_rf ax_s_148 := ax_meth9 (c := ax_c_148_0) (T := ax_t_148) ax_Yn ⟨ax_k_148_0, ⟨ax_k_148_1, trivial⟩⟩ List.mem_cons_self rfl
/-! Model.valueOf ((),) -/
noncomputable def ax_c_149_0 : ax_ct := (0, (5, [(1, 1), (0, 150), (0, 12), (1, 150), (0, 149)], [], [], [(1, 3, 0), (0, 3, 1), (0, 1, 1)]), [(249, .retAddr 0, .retAddr 4), (244, .int 7, .retAddr 3), (244, .int 1, .retAddr 2)], [some (.ref 244), some (.retAddr 0), some (.retAddr 1), none, none], [(0, 1, .int 0), (0, 2, .int 0), (1, 244, .int 1), (1, 244, .int 7), (1, 249, .retAddr 0)], [], [])
noncomputable def ax_t_149 : List ax_ct := [ax_c_149_0]
noncomputable def ax_w_149 : ax_D := ([(244, 19), (244, 20), (244, 21), (244, 30)], [(259, 267)])
noncomputable def ax_p_149 : ax_po := (some (some (0, 60)), [], false, false, [])
noncomputable def ax_s_149 : ax_s9 := (196, ax_sumc ax_sp ax_c_149_0 4, ax_w_149, ax_p_149)
noncomputable def ax_l_149 : ax_Y := [ax_s_5, ax_s_56, ax_s_58, ax_s_148]
set_option maxRecDepth 1000000 in
theorem ax_k_149_0 : ax_cr9 ax_w_149 ax_l_149 ax_t_149 196 4 40000 ax_p_149 ax_c_149_0 = true := by decide +kernel
theorem ax_y_149 {X : Nat × (Nat → Int32)} : ax_Y1 X ax_sp ax_rf ax_s_149 := ax_meth9 (c := ax_c_149_0) (T := ax_t_149) (ax_Yc ax_y_5 (ax_Yc ax_y_56 (ax_Yc ax_y_58 (ax_Yc ax_y_148 ax_Yn)))) ⟨ax_k_149_0, trivial⟩ List.mem_cons_self rfl
/-! Model.countsOf ((),) -/
noncomputable def ax_c_150_0 : ax_ct := (0, (6, [(1, 1), (0, 150), (0, 12), (0, 13), (1, 150), (0, 149)], [], [], [(1, 4, 0), (0, 4, 1), (0, 1, 1)]), [(249, .retAddr 0, .retAddr 5), (244, .int 7, .retAddr 4), (244, .int 1, .retAddr 3)], [some (.ref 244), some (.retAddr 0), some (.retAddr 1), some (.retAddr 2), none, none], [(0, 1, .int 0), (0, 2, .int 0), (0, 3, .int 0), (1, 244, .int 1), (1, 244, .int 7), (1, 249, .retAddr 0)], [(false, .int 20000), (false, .int 0)], [])
noncomputable def ax_c_150_1 : ax_ct := (17, (8, [(1, 1), (0, 150), (0, 12), (0, 150), ((-4), 11), (0, 13), (1, 150), (0, 149)], [], [], [(4, 1, 0), (1, 6, 0), (0, 6, 1), (0, 1, 1)]), [(249, .retAddr 0, .retAddr 7), (244, .int 7, .retAddr 6), (244, .int 1, .retAddr 5)], [some (.ref 244), some (.retAddr 0), some (.retAddr 1), some (.retAddr 2), some (.retAddr 3), some (.retAddr 4)], [(0, 1, .int 0), (0, 2, .int 0), (0, 3, .int 0), (0, 4, .int 0), (0, 5, .int 0), (1, 244, .int 1), (1, 244, .int 7), (1, 249, .retAddr 0)], [(false, .int 9983), (true, .retAddr 4)], [])
noncomputable def ax_t_150 : List ax_ct := [ax_c_150_0, ax_c_150_1]
noncomputable def ax_w_150 : ax_D := ([(244, 19), (244, 20), (244, 21), (244, 30)], [(259, 267)])
noncomputable def ax_p_150 : ax_po := (some (some (0, 60)), [], false, false, [])
noncomputable def ax_s_150 : ax_s9 := (197, ax_sumc ax_sp ax_c_150_0 5, ax_w_150, ax_p_150)
noncomputable def ax_l_150 : ax_Y := [ax_s_71, ax_s_149]
set_option maxRecDepth 1000000 in
theorem ax_k_150_0 : ax_cr9 ax_w_150 ax_l_150 ax_t_150 197 5 40000 ax_p_150 ax_c_150_0 = true := by decide +kernel
set_option maxRecDepth 1000000 in
theorem ax_k_150_1 : ax_cr9 ax_w_150 ax_l_150 ax_t_150 197 5 40000 ax_p_150 ax_c_150_1 = true := by decide +kernel
theorem ax_y_150 {X : Nat × (Nat → Int32)} : ax_Y1 X ax_sp ax_rf ax_s_150 := ax_meth9 (c := ax_c_150_0) (T := ax_t_150) (ax_Yc ax_y_71 (ax_Yc ax_y_149 ax_Yn)) ⟨ax_k_150_0, ⟨ax_k_150_1, trivial⟩⟩ List.mem_cons_self rfl
/-! Model.counts ('counts', 0) -/
noncomputable def ax_c_151_0 : ax_ct := (0, (3, [((-2147483648), 2147483647), ((-2147483648), 2147483647), ((-2147483648), 2147483647)], [], [], []), [], [some (.ref 244), some (.retAddr 0), some (.retAddr 1), some (.retAddr 2)], [(0, 1, .int 0), (0, 2, .int 0), (0, 3, .int 0)], [], [])
noncomputable def ax_t_151 : List ax_ct := [ax_c_151_0]
noncomputable def ax_w_151 : ax_D := ([(244, 19), (244, 20), (244, 21), (244, 30)], [(259, 267)])
noncomputable def ax_p_151 : ax_po := (some (some ((-1), 60)), [], false, false, [])
noncomputable def ax_s_151 : ax_s9 := (199, ax_sumc ax_sp ax_c_151_0 6, ax_w_151, ax_p_151)
noncomputable def ax_l_151 : ax_Y := [ax_s_150]
set_option maxRecDepth 1000000 in
theorem ax_k_151_0 : ax_cr9 ax_w_151 ax_l_151 ax_t_151 199 6 40000 ax_p_151 ax_c_151_0 = true := by decide +kernel
theorem ax_y_151 {X : Nat × (Nat → Int32)} : ax_Y1 X ax_sp ax_rf ax_s_151 := ax_meth9 (c := ax_c_151_0) (T := ax_t_151) (ax_Yc ax_y_150 ax_Yn) ⟨ax_k_151_0, trivial⟩ List.mem_cons_self rfl
/-! $Debts.clear ((),) -/
noncomputable def ax_c_152_0 : ax_ct := (0, (2, [(0, 150), (0, 12)], [], [], []), [(14, .int 16, .retAddr 1), (1, .int 4, .retAddr 0)], [some (.ref 180), none], [(1, 1, .int 4), (1, 14, .int 16)], [(false, .int 20000), (false, .int 0)], [])
noncomputable def ax_c_152_1 : ax_ct := (2, (3, [(0, 150), (0, 12), (0, 12)], [], [], []), [(14, .int 16, .retAddr 2), (1, .int 4, .retAddr 1)], [some (.ref 180), some (.retAddr 0)], [(0, 1, .int 0), (1, 1, .int 4), (1, 14, .int 16)], [(false, .int 9998), (true, .retAddr 0)], [])
noncomputable def ax_t_152 : List ax_ct := [ax_c_152_0, ax_c_152_1]
noncomputable def ax_w_152 : ax_D := ([], [(182, 193)])
noncomputable def ax_p_152 : ax_po := (none, [], false, false, [])
noncomputable def ax_s_152 : ax_s9 := (34, ax_sumc ax_sp ax_c_152_0 1, ax_w_152, ax_p_152)
noncomputable def ax_l_152 : ax_Y := []
set_option maxRecDepth 1000000 in
theorem ax_k_152_0 : ax_cr9 ax_w_152 ax_l_152 ax_t_152 34 1 40000 ax_p_152 ax_c_152_0 = true := by decide +kernel
set_option maxRecDepth 1000000 in
theorem ax_k_152_1 : ax_cr9 ax_w_152 ax_l_152 ax_t_152 34 1 40000 ax_p_152 ax_c_152_1 = true := by decide +kernel
theorem ax_y_152 {X : Nat × (Nat → Int32)} : ax_Y1 X ax_sp ax_rf ax_s_152 := ax_meth9 (c := ax_c_152_0) (T := ax_t_152) ax_Yn ⟨ax_k_152_0, ⟨ax_k_152_1, trivial⟩⟩ List.mem_cons_self rfl
/-! $Debts.inherit ((),) -/
noncomputable def ax_c_153_0 : ax_ct := (0, (4, [(1, 150), (0, 12), (0, 11), (0, 11)], [], [], []), [(14, .int 16, .retAddr 3), (1, .int 4, .retAddr 2)], [some (.ref 180), some (.retAddr 0), some (.retAddr 1), none], [(0, 1, .int 0), (0, 2, .int 0), (1, 1, .int 4), (1, 14, .int 16)], [(false, .int 20000), (false, .int 0)], [])
noncomputable def ax_c_153_1 : ax_ct := (2, (5, [(1, 150), (0, 12), (0, 12), (0, 11), (0, 11)], [], [], []), [(14, .int 16, .retAddr 4), (1, .int 4, .retAddr 3)], [some (.ref 180), some (.retAddr 0), some (.retAddr 1), some (.retAddr 2)], [(0, 1, .int 0), (0, 2, .int 0), (0, 3, .int 0), (1, 1, .int 4), (1, 14, .int 16)], [(false, .int 9998), (true, .retAddr 2)], [])
noncomputable def ax_t_153 : List ax_ct := [ax_c_153_0, ax_c_153_1]
noncomputable def ax_w_153 : ax_D := ([], [(182, 193)])
noncomputable def ax_p_153 : ax_po := (none, [], false, false, [])
noncomputable def ax_s_153 : ax_s9 := (38, ax_sumc ax_sp ax_c_153_0 1, ax_w_153, ax_p_153)
noncomputable def ax_l_153 : ax_Y := []
set_option maxRecDepth 1000000 in
theorem ax_k_153_0 : ax_cr9 ax_w_153 ax_l_153 ax_t_153 38 1 40000 ax_p_153 ax_c_153_0 = true := by decide +kernel
set_option maxRecDepth 1000000 in
theorem ax_k_153_1 : ax_cr9 ax_w_153 ax_l_153 ax_t_153 38 1 40000 ax_p_153 ax_c_153_1 = true := by decide +kernel
theorem ax_y_153 {X : Nat × (Nat → Int32)} : ax_Y1 X ax_sp ax_rf ax_s_153 := ax_meth9 (c := ax_c_153_0) (T := ax_t_153) ax_Yn ⟨ax_k_153_0, ⟨ax_k_153_1, trivial⟩⟩ List.mem_cons_self rfl
/-! $Book.pass ((),) -/
noncomputable def ax_c_154_0 : ax_ct := (0, (3, [(1, 150), (0, 12), (0, 149)], [], [], [(0, 2, 1)]), [(14, .int 16, .retAddr 2), (1, .int 4, .retAddr 1)], [some (.ref 14), some (.ref 180), some (.retAddr 0)], [(0, 2, .int 0), (1, 1, .int 4), (1, 14, .int 16)], [], [])
noncomputable def ax_t_154 : List ax_ct := [ax_c_154_0]
noncomputable def ax_w_154 : ax_D := ([], [(182, 193)])
noncomputable def ax_p_154 : ax_po := (none, [], false, false, [])
noncomputable def ax_s_154 : ax_s9 := (31, ax_sumc ax_sp ax_c_154_0 2, ax_w_154, ax_p_154)
noncomputable def ax_l_154 : ax_Y := [ax_s_153]
set_option maxRecDepth 1000000 in
theorem ax_k_154_0 : ax_cr9 ax_w_154 ax_l_154 ax_t_154 31 2 40000 ax_p_154 ax_c_154_0 = true := by decide +kernel
theorem ax_y_154 {X : Nat × (Nat → Int32)} : ax_Y1 X ax_sp ax_rf ax_s_154 := ax_meth9 (c := ax_c_154_0) (T := ax_t_154) (ax_Yc ax_y_153 ax_Yn) ⟨ax_k_154_0, trivial⟩ List.mem_cons_self rfl
/-! $Book.work ((),) -/
noncomputable def ax_c_155_0 : ax_ct := (0, (5, [(0, 150), (0, 12), (0, 13), (0, 150), (0, 520)], [], [], [(1, 4, 0)]), [(14, .int 16, .retAddr 4), (1, .int 4, .retAddr 3)], [some (.ref 14), some (.ref 180), some (.retAddr 0), some (.retAddr 1), some (.retAddr 2), none, none], [(0, 2, .int 0), (0, 3, .int 0), (0, 4, .int 0), (1, 1, .int 4), (1, 14, .int 16)], [(false, .int 20000), (false, .int 0)], [])
noncomputable def ax_c_155_1 : ax_ct := (7, (6, [(0, 150), (0, 12), (0, 150), (0, 13), (0, 150), (0, 520)], [], [], [(3, 5, 0), (1, 5, 0)]), [(14, .int 16, .retAddr 5), (1, .int 4, .retAddr 4)], [some (.ref 14), some (.ref 180), some (.retAddr 0), some (.retAddr 1), some (.retAddr 2), some (.retAddr 3), none], [(0, 2, .int 0), (0, 3, .int 0), (0, 4, .int 0), (0, 5, .int 0), (1, 1, .int 4), (1, 14, .int 16)], [(false, .int 9993), (true, .retAddr 3)], [])
noncomputable def ax_t_155 : List ax_ct := [ax_c_155_0, ax_c_155_1]
noncomputable def ax_w_155 : ax_D := ([(15, 0), (15, 1), (15, 2), (15, 3), (15, 4), (15, 5), (15, 6), (15, 7), (15, 8), (15, 9), (15, 10)], [(178, 179), (182, 193)])
noncomputable def ax_p_155 : ax_po := (none, [], false, false, [])
noncomputable def ax_s_155 : ax_s9 := (30, ax_sumc ax_sp ax_c_155_0 39, ax_w_155, ax_p_155)
noncomputable def ax_l_155 : ax_Y := [ax_s_152, ax_s_146, ax_s_154]
set_option maxRecDepth 1000000 in
theorem ax_k_155_0 : ax_cr9 ax_w_155 ax_l_155 ax_t_155 30 39 40000 ax_p_155 ax_c_155_0 = true := by decide +kernel
set_option maxRecDepth 1000000 in
theorem ax_k_155_1 : ax_cr9 ax_w_155 ax_l_155 ax_t_155 30 39 40000 ax_p_155 ax_c_155_1 = true := by decide +kernel
theorem ax_y_155 {X : Nat × (Nat → Int32)} : ax_Y1 X ax_sp ax_rf ax_s_155 := ax_meth9 (c := ax_c_155_0) (T := ax_t_155) (ax_Yc ax_y_152 (ax_Yc ax_y_146 (ax_Yc ax_y_154 ax_Yn))) ⟨ax_k_155_0, ⟨ax_k_155_1, trivial⟩⟩ List.mem_cons_self rfl
/-! .owed ('owed', 0) -/
noncomputable def ax_c_156_0 : ax_ct := (0, (5, [((-2147483648), 2147483647), ((-2147483648), 2147483647), ((-2147483648), 2147483647), ((-2147483648), 2147483647), ((-2147483648), 2147483647)], [], [], []), [], [some (.ref 0), some (.retAddr 0), some (.retAddr 1), some (.retAddr 2), some (.retAddr 3), some (.retAddr 4)], [(0, 1, .int 0), (0, 2, .int 0), (0, 3, .int 0), (0, 4, .int 0), (0, 5, .int 0)], [], [])
noncomputable def ax_t_156 : List ax_ct := [ax_c_156_0]
noncomputable def ax_w_156 : ax_D := ([(15, 0), (15, 1), (15, 2), (15, 3), (15, 4), (15, 5), (15, 6), (15, 7), (15, 8), (15, 9), (15, 10)], [(178, 179), (182, 193)])
noncomputable def ax_p_156 : ax_po := (some (some ((-2147483648), 2147483647)), [], false, false, [])
noncomputable def ax_s_156 : ax_s9 := (121, ax_sumc ax_sp ax_c_156_0 41, ax_w_156, ax_p_156)
noncomputable def ax_l_156 : ax_Y := [ax_s_155]
set_option maxRecDepth 1000000 in
theorem ax_k_156_0 : ax_cr9 ax_w_156 ax_l_156 ax_t_156 121 41 40000 ax_p_156 ax_c_156_0 = true := by decide +kernel
theorem ax_y_156 {X : Nat × (Nat → Int32)} : ax_Y1 X ax_sp ax_rf ax_s_156 := ax_meth9 (c := ax_c_156_0) (T := ax_t_156) (ax_Yc ax_y_155 ax_Yn) ⟨ax_k_156_0, trivial⟩ List.mem_cons_self rfl
/-! Model.goesBy ((),) -/
noncomputable def ax_c_157_0 : ax_ct := (0, (5, [(0, 150), (0, 12), (0, 13), (1, 150), (0, 149)], [], [], [(1, 4, 0), (0, 4, 0), (0, 1, 1)]), [(244, .int 7, .retAddr 4), (244, .int 1, .retAddr 3)], [some (.ref 244), some (.retAddr 0), some (.retAddr 1), some (.retAddr 2), none, none, none, none], [(0, 1, .int 0), (0, 2, .int 0), (0, 3, .int 0), (1, 244, .int 1), (1, 244, .int 7)], [(false, .int 20000), (false, .int 0)], [])
noncomputable def ax_c_157_1 : ax_ct := (139, (10, [(5, 5), (0, 150), (0, 12), (0, 6), ((-2147483648), 2147483647), ((-4), 11), ((-4), 149), (0, 13), (1, 150), (0, 149)], [], [], [(1, 8, 0), (0, 8, 1), (0, 1, 1)]), [(249, .retAddr 0, .retAddr 9), (244, .int 7, .retAddr 8), (244, .int 1, .retAddr 7)], [some (.ref 244), some (.retAddr 0), some (.retAddr 1), some (.retAddr 2), some (.retAddr 3), some (.retAddr 4), some (.retAddr 5), some (.retAddr 6)], [(0, 1, .int 0), (0, 2, .int 0), (0, 3, .int 0), (0, 4, .int 0), (0, 5, .int 0), (0, 6, .int 0), (0, 7, .int 0), (1, 244, .int 1), (1, 244, .int 7), (1, 249, .retAddr 0)], [(false, .int 9861), (true, .retAddr 6)], [])
noncomputable def ax_c_157_2 : ax_ct := (185, (10, [(5, 5), (0, 150), (0, 12), (0, 6), ((-2147483648), 2147483647), ((-4), 11), ((-4), 149), (0, 13), (1, 150), (0, 149)], [], [], [(1, 8, 0), (0, 8, 1), (0, 1, 1)]), [(249, .retAddr 0, .retAddr 9), (244, .int 7, .retAddr 8), (244, .int 1, .retAddr 7)], [some (.ref 244), some (.retAddr 0), some (.retAddr 1), some (.retAddr 2), some (.retAddr 3), some (.retAddr 4), some (.retAddr 5), some (.retAddr 6)], [(0, 1, .int 0), (0, 2, .int 0), (0, 3, .int 0), (0, 4, .int 0), (0, 5, .int 0), (0, 6, .int 0), (0, 7, .int 0), (1, 244, .int 1), (1, 244, .int 7), (1, 249, .retAddr 0)], [(false, .int 9815), (true, .retAddr 6)], [])
noncomputable def ax_c_157_3 : ax_ct := (263, (8, [(0, 150), (0, 12), (0, 12), (0, 11), (0, 11), (0, 13), (1, 150), (0, 149)], [], [], [(5, 6, 0), (1, 7, 0), (0, 7, 1), (0, 1, 1)]), [(244, .int 7, .retAddr 7), (244, .int 1, .retAddr 6)], [some (.ref 244), some (.retAddr 0), some (.retAddr 1), some (.retAddr 2), some (.retAddr 3), some (.retAddr 4), some (.retAddr 5), none], [(0, 1, .int 0), (0, 2, .int 0), (0, 3, .int 0), (0, 4, .int 0), (0, 5, .int 0), (0, 6, .int 0), (1, 244, .int 1), (1, 244, .int 7)], [(false, .int 9737), (true, .retAddr 5)], [])
noncomputable def ax_t_157 : List ax_ct := [ax_c_157_0, ax_c_157_1, ax_c_157_2, ax_c_157_3]
noncomputable def ax_w_157 : ax_D := ([(244, 19), (244, 20), (244, 21), (244, 30)], [(259, 268)])
noncomputable def ax_p_157 : ax_po := (none, [], false, false, [])
noncomputable def ax_s_157 : ax_s9 := (200, ax_sumc ax_sp ax_c_157_0 6, ax_w_157, ax_p_157)
noncomputable def ax_l_157 : ax_Y := [ax_s_150]
set_option maxRecDepth 1000000 in
theorem ax_k_157_0 : ax_cr9 ax_w_157 ax_l_157 ax_t_157 200 6 40000 ax_p_157 ax_c_157_0 = true := by decide +kernel
set_option maxRecDepth 1000000 in
theorem ax_k_157_1 : ax_cr9 ax_w_157 ax_l_157 ax_t_157 200 6 40000 ax_p_157 ax_c_157_1 = true := by decide +kernel
set_option maxRecDepth 1000000 in
theorem ax_k_157_2 : ax_cr9 ax_w_157 ax_l_157 ax_t_157 200 6 40000 ax_p_157 ax_c_157_2 = true := by decide +kernel
set_option maxRecDepth 1000000 in
theorem ax_k_157_3 : ax_cr9 ax_w_157 ax_l_157 ax_t_157 200 6 40000 ax_p_157 ax_c_157_3 = true := by decide +kernel
theorem ax_y_157 {X : Nat × (Nat → Int32)} : ax_Y1 X ax_sp ax_rf ax_s_157 := ax_meth9 (c := ax_c_157_0) (T := ax_t_157) (ax_Yc ax_y_150 ax_Yn) ⟨ax_k_157_0, ⟨ax_k_157_1, ⟨ax_k_157_2, ⟨ax_k_157_3, trivial⟩⟩⟩⟩ List.mem_cons_self rfl
/-! Model.findOwed ((),) -/
noncomputable def ax_c_158_0 : ax_ct := (0, (5, [(0, 150), (0, 12), (0, 13), (0, 150), (0, 520)], [], [], [(1, 4, 0)]), [(244, .int 7, .retAddr 4), (244, .int 1, .retAddr 3)], [some (.ref 244), some (.retAddr 0), some (.retAddr 1), some (.retAddr 2), none, none, none, none], [(0, 1, .int 0), (0, 2, .int 0), (0, 3, .int 0), (1, 244, .int 1), (1, 244, .int 7)], [(false, .int 20000), (false, .int 0), (false, .int 20000), (false, .int 0)], [])
noncomputable def ax_c_158_1 : ax_ct := (3, (6, [(0, 150), (0, 12), (0, 144), (0, 13), (0, 150), (0, 520)], [], [], [(1, 5, 0)]), [(244, .int 7, .retAddr 5), (244, .int 1, .retAddr 4)], [some (.ref 244), some (.retAddr 0), some (.retAddr 1), some (.retAddr 2), some (.retAddr 3), none, none, none], [(0, 1, .int 0), (0, 2, .int 0), (0, 3, .int 0), (0, 4, .int 0), (1, 244, .int 1), (1, 244, .int 7)], [(false, .int 9997), (true, .retAddr 3), (false, .int 20000), (false, .int 0)], [])
noncomputable def ax_c_158_2 : ax_ct := (31, (8, [(0, 150), (0, 12), (0, 0), (1, 521), (1, 521), (0, 13), (0, 150), (0, 520)], [], [], [(4, 3, 0), (3, 4, 0), (1, 7, 0), (0, 4, 1), (0, 3, 1)]), [(244, .int 7, .retAddr 7), (244, .int 1, .retAddr 6)], [some (.ref 244), some (.retAddr 0), some (.retAddr 1), some (.retAddr 2), some (.retAddr 3), some (.int 0), some (.retAddr 4), some (.retAddr 5)], [(0, 1, .int 0), (0, 2, .int 0), (0, 3, .int 0), (0, 4, .int 0), (0, 6, .int 0), (0, 7, .int 0), (1, 244, .int 1), (1, 244, .int 7)], [(false, .int 9969), (true, .retAddr 3), (false, .int 20000), (false, .int 0)], [])
noncomputable def ax_c_158_3 : ax_ct := (31, (6, [(0, 150), (0, 12), ((-1), 520), (0, 13), (0, 150), (0, 520)], [], [], [(3, 0, 0), (1, 5, 0)]), [(244, .int 7, .retAddr 5), (244, .int 1, .retAddr 4)], [some (.ref 244), some (.retAddr 0), some (.retAddr 1), some (.retAddr 2), some (.retAddr 3), some (.int 1), none, none], [(0, 1, .int 0), (0, 2, .int 0), (0, 3, .int 0), (0, 4, .int 0), (1, 244, .int 1), (1, 244, .int 7)], [(false, .int 9969), (true, .retAddr 3), (false, .int 20000), (false, .int 0)], [])
noncomputable def ax_c_158_4 : ax_ct := (44, (9, [(0, 150), (0, 12), (0, 150), (0, 521), (1, 1), ((-1), 520), (0, 13), (0, 150), (0, 520)], [], [], [(6, 1, 0), (3, 5, 1), (3, 0, 0), (1, 8, 0)]), [(244, .int 7, .retAddr 8), (244, .int 1, .retAddr 7)], [some (.ref 244), some (.retAddr 0), some (.retAddr 1), some (.retAddr 2), some (.retAddr 3), some (.retAddr 4), some (.retAddr 5), some (.retAddr 6)], [(0, 1, .int 0), (0, 2, .int 0), (0, 3, .int 0), (0, 4, .int 0), (0, 5, .int 0), (0, 6, .int 0), (0, 7, .int 0), (1, 244, .int 1), (1, 244, .int 7)], [(false, .int 9969), (true, .retAddr 3), (false, .int 9956), (true, .retAddr 6)], [])
noncomputable def ax_c_158_5 : ax_ct := (105, (8, [(0, 150), (0, 12), (0, 0), (1, 521), ((-1), 520), (0, 13), (0, 150), (0, 520)], [], [], [(3, 4, 1), (3, 0, 0), (1, 7, 0), (0, 4, 1)]), [(244, .int 7, .retAddr 7), (244, .int 1, .retAddr 6)], [some (.ref 244), some (.retAddr 0), some (.retAddr 1), some (.retAddr 2), some (.retAddr 3), some (.int 0), some (.retAddr 4), some (.retAddr 5)], [(0, 1, .int 0), (0, 2, .int 0), (0, 3, .int 0), (0, 4, .int 0), (0, 6, .int 0), (0, 7, .int 0), (1, 244, .int 1), (1, 244, .int 7)], [(false, .int 9969), (true, .retAddr 3), (false, .int 9895), (true, .retAddr 5)], [])
noncomputable def ax_c_158_6 : ax_ct := (105, (8, [(0, 150), (0, 12), (0, 150), (0, 520), ((-1), 520), (0, 13), (0, 150), (0, 520)], [], [], [(5, 1, 0), (4, 0, 0), (3, 4, 1), (3, 0, 1), (1, 7, 0)]), [(244, .int 7, .retAddr 7), (244, .int 1, .retAddr 6)], [some (.ref 244), some (.retAddr 0), some (.retAddr 1), some (.retAddr 2), some (.retAddr 3), some (.int 1), some (.retAddr 4), some (.retAddr 5)], [(0, 1, .int 0), (0, 2, .int 0), (0, 3, .int 0), (0, 4, .int 0), (0, 6, .int 0), (0, 7, .int 0), (1, 244, .int 1), (1, 244, .int 7)], [(false, .int 9969), (true, .retAddr 3), (false, .int 9895), (true, .retAddr 5)], [])
noncomputable def ax_t_158 : List ax_ct := [ax_c_158_0, ax_c_158_1, ax_c_158_2, ax_c_158_3, ax_c_158_4, ax_c_158_5, ax_c_158_6]
noncomputable def ax_w_158 : ax_D := ([(244, 19), (244, 20), (244, 21), (244, 30)], [(259, 268)])
noncomputable def ax_p_158 : ax_po := (none, [], false, false, [])
noncomputable def ax_s_158 : ax_s9 := (202, ax_sumc ax_sp ax_c_158_0 7, ax_w_158, ax_p_158)
noncomputable def ax_l_158 : ax_Y := [ax_s_157]
set_option maxRecDepth 1000000 in
theorem ax_k_158_0 : ax_cr9 ax_w_158 ax_l_158 ax_t_158 202 7 40000 ax_p_158 ax_c_158_0 = true := by decide +kernel
set_option maxRecDepth 1000000 in
theorem ax_k_158_1 : ax_cr9 ax_w_158 ax_l_158 ax_t_158 202 7 40000 ax_p_158 ax_c_158_1 = true := by decide +kernel
set_option maxRecDepth 1000000 in
theorem ax_k_158_2 : ax_cr9 ax_w_158 ax_l_158 ax_t_158 202 7 40000 ax_p_158 ax_c_158_2 = true := by decide +kernel
set_option maxRecDepth 1000000 in
theorem ax_k_158_3 : ax_cr9 ax_w_158 ax_l_158 ax_t_158 202 7 40000 ax_p_158 ax_c_158_3 = true := by decide +kernel
set_option maxRecDepth 1000000 in
theorem ax_k_158_4 : ax_cr9 ax_w_158 ax_l_158 ax_t_158 202 7 40000 ax_p_158 ax_c_158_4 = true := by decide +kernel
set_option maxRecDepth 1000000 in
theorem ax_k_158_5 : ax_cr9 ax_w_158 ax_l_158 ax_t_158 202 7 40000 ax_p_158 ax_c_158_5 = true := by decide +kernel
set_option maxRecDepth 1000000 in
theorem ax_k_158_6 : ax_cr9 ax_w_158 ax_l_158 ax_t_158 202 7 40000 ax_p_158 ax_c_158_6 = true := by decide +kernel
theorem ax_y_158 {X : Nat × (Nat → Int32)} : ax_Y1 X ax_sp ax_rf ax_s_158 := ax_meth9 (c := ax_c_158_0) (T := ax_t_158) (ax_Yc ax_y_157 ax_Yn) ⟨ax_k_158_0, ⟨ax_k_158_1, ⟨ax_k_158_2, ⟨ax_k_158_3, ⟨ax_k_158_4, ⟨ax_k_158_5, ⟨ax_k_158_6, trivial⟩⟩⟩⟩⟩⟩⟩ List.mem_cons_self rfl
/-! Model.owed ('owed', 0) -/
noncomputable def ax_c_159_0 : ax_ct := (0, (5, [((-2147483648), 2147483647), ((-2147483648), 2147483647), ((-2147483648), 2147483647), ((-2147483648), 2147483647), ((-2147483648), 2147483647)], [], [], []), [], [some (.ref 244), some (.retAddr 0), some (.retAddr 1), some (.retAddr 2), some (.retAddr 3), some (.retAddr 4)], [(0, 1, .int 0), (0, 2, .int 0), (0, 3, .int 0), (0, 4, .int 0), (0, 5, .int 0)], [], [])
noncomputable def ax_t_159 : List ax_ct := [ax_c_159_0]
noncomputable def ax_w_159 : ax_D := ([(244, 19), (244, 20), (244, 21), (244, 30)], [(259, 268)])
noncomputable def ax_p_159 : ax_po := (some (some ((-2147483648), 2147483647)), [], false, false, [])
noncomputable def ax_s_159 : ax_s9 := (204, ax_sumc ax_sp ax_c_159_0 8, ax_w_159, ax_p_159)
noncomputable def ax_l_159 : ax_Y := [ax_s_158]
set_option maxRecDepth 1000000 in
theorem ax_k_159_0 : ax_cr9 ax_w_159 ax_l_159 ax_t_159 204 8 40000 ax_p_159 ax_c_159_0 = true := by decide +kernel
theorem ax_y_159 {X : Nat × (Nat → Int32)} : ax_Y1 X ax_sp ax_rf ax_s_159 := ax_meth9 (c := ax_c_159_0) (T := ax_t_159) (ax_Yc ax_y_158 ax_Yn) ⟨ax_k_159_0, trivial⟩ List.mem_cons_self rfl
/-! $Debts.netOf ((),) -/
noncomputable def ax_c_160_0 : ax_ct := (0, (3, [(0, 150), (0, 12), (0, 11)], [], [], []), [(14, .int 16, .retAddr 2), (1, .int 4, .retAddr 1)], [some (.ref 180), some (.retAddr 0), none, none], [(0, 1, .int 0), (1, 1, .int 4), (1, 14, .int 16)], [(false, .int 20000), (false, .int 0)], [])
noncomputable def ax_c_160_1 : ax_ct := (4, (5, [(0, 150), (0, 12), (0, 12), ((-2147483648), 2147483647), (0, 11)], [], [], []), [(14, .int 16, .retAddr 4), (1, .int 4, .retAddr 3)], [some (.ref 180), some (.retAddr 0), some (.retAddr 1), some (.retAddr 2)], [(0, 1, .int 0), (0, 2, .int 0), (0, 3, .int 0), (1, 1, .int 4), (1, 14, .int 16)], [(false, .int 9996), (true, .retAddr 2)], [])
noncomputable def ax_t_160 : List ax_ct := [ax_c_160_0, ax_c_160_1]
noncomputable def ax_w_160 : ax_D := ([], [])
noncomputable def ax_p_160 : ax_po := (some (some ((-2147483648), 2147483647)), [], false, false, [])
noncomputable def ax_s_160 : ax_s9 := (39, ax_sumc ax_sp ax_c_160_0 1, ax_w_160, ax_p_160)
noncomputable def ax_l_160 : ax_Y := []
set_option maxRecDepth 1000000 in
theorem ax_k_160_0 : ax_cr9 ax_w_160 ax_l_160 ax_t_160 39 1 40000 ax_p_160 ax_c_160_0 = true := by decide +kernel
set_option maxRecDepth 1000000 in
theorem ax_k_160_1 : ax_cr9 ax_w_160 ax_l_160 ax_t_160 39 1 40000 ax_p_160 ax_c_160_1 = true := by decide +kernel
theorem ax_y_160 {X : Nat × (Nat → Int32)} : ax_Y1 X ax_sp ax_rf ax_s_160 := ax_meth9 (c := ax_c_160_0) (T := ax_t_160) ax_Yn ⟨ax_k_160_0, ⟨ax_k_160_1, trivial⟩⟩ List.mem_cons_self rfl
/-! Model.balance ('balance', 0) -/
noncomputable def ax_c_162_0 : ax_ct := (0, (4, [((-2147483648), 2147483647), ((-2147483648), 2147483647), ((-2147483648), 2147483647), ((-2147483648), 2147483647)], [], [], []), [], [some (.ref 244), some (.retAddr 0), some (.retAddr 1), some (.retAddr 2), some (.retAddr 3), none, none, none], [(0, 1, .int 0), (0, 2, .int 0), (0, 3, .int 0), (0, 4, .int 0)], [(false, .int 20000), (false, .int 0)], [])
noncomputable def ax_c_162_1 : ax_ct := (55, (8, [(0, 150), (0, 12), (0, 12), (0, 0), (0, 13), ((-1), 150), (0, 520), (0, 11)], [], [], [(5, 6, 0), (2, 7, 0), (0, 6, 1)]), [(244, .int 7, .retAddr 7), (244, .int 1, .retAddr 6)], [some (.ref 244), some (.retAddr 0), some (.retAddr 1), some (.retAddr 2), some (.retAddr 3), some (.double 4), none, some (.retAddr 5)], [(0, 1, .int 0), (0, 2, .int 0), (0, 3, .int 0), (0, 4, .int 0), (0, 5, .int 0), (0, 7, .int 0), (1, 244, .int 1), (1, 244, .int 7)], [(false, .int 9945), (true, .retAddr 5)], [])
noncomputable def ax_t_162 : List ax_ct := [ax_c_162_0, ax_c_162_1]
noncomputable def ax_w_162 : ax_D := ([(244, 0), (244, 19), (244, 20), (244, 21), (244, 30)], [(259, 268)])
noncomputable def ax_p_162 : ax_po := (some none, [], false, false, [])
noncomputable def ax_s_162 : ax_s9 := (205, ax_sumc ax_sp ax_c_162_0 8, ax_w_162, ax_p_162)
noncomputable def ax_l_162 : ax_Y := [ax_s_158]
set_option maxRecDepth 1000000 in
theorem ax_k_162_0 : ax_cr9 ax_w_162 ax_l_162 ax_t_162 205 8 40000 ax_p_162 ax_c_162_0 = true := by decide +kernel
set_option maxRecDepth 1000000 in
theorem ax_k_162_1 : ax_cr9 ax_w_162 ax_l_162 ax_t_162 205 8 40000 ax_p_162 ax_c_162_1 = true := by decide +kernel
theorem ax_y_162 {X : Nat × (Nat → Int32)} : ax_Y1 X ax_sp ax_rf ax_s_162 := ax_meth9 (c := ax_c_162_0) (T := ax_t_162) (ax_Yc ax_y_158 ax_Yn) ⟨ax_k_162_0, ⟨ax_k_162_1, trivial⟩⟩ List.mem_cons_self rfl
/-! $Debts.sum ((),) -/
noncomputable def ax_c_163_0 : ax_ct := (0, (2, [(0, 150), (0, 12)], [], [], []), [(14, .int 16, .retAddr 1), (1, .int 4, .retAddr 0)], [some (.ref 180), none, none, none], [(1, 1, .int 4), (1, 14, .int 16)], [(false, .int 20000), (false, .int 0), (false, .int 20000), (false, .int 0)], [])
noncomputable def ax_c_163_1 : ax_ct := (4, (4, [(0, 150), (0, 12), (0, 12), ((-2147483648), 2147483647)], [], [], []), [(14, .int 16, .retAddr 3), (1, .int 4, .retAddr 2)], [some (.ref 180), some (.retAddr 0), some (.retAddr 1), none], [(0, 1, .int 0), (0, 2, .int 0), (1, 1, .int 4), (1, 14, .int 16)], [(false, .int 9996), (true, .retAddr 1), (false, .int 20000), (false, .int 0)], [])
noncomputable def ax_c_163_2 : ax_ct := (12, (5, [(0, 150), (0, 12), (0, 12), (0, 11), ((-2147483648), 2147483647)], [], [], []), [(14, .int 16, .retAddr 4), (1, .int 4, .retAddr 3)], [some (.ref 180), some (.retAddr 0), some (.retAddr 1), some (.retAddr 2)], [(0, 1, .int 0), (0, 2, .int 0), (0, 3, .int 0), (1, 1, .int 4), (1, 14, .int 16)], [(false, .int 9996), (true, .retAddr 1), (false, .int 9988), (true, .retAddr 2)], [])
noncomputable def ax_t_163 : List ax_ct := [ax_c_163_0, ax_c_163_1, ax_c_163_2]
noncomputable def ax_w_163 : ax_D := ([], [])
noncomputable def ax_p_163 : ax_po := (some (some ((-2147483648), 2147483647)), [], false, false, [])
noncomputable def ax_s_163 : ax_s9 := (40, ax_sumc ax_sp ax_c_163_0 1, ax_w_163, ax_p_163)
noncomputable def ax_l_163 : ax_Y := []
set_option maxRecDepth 1000000 in
theorem ax_k_163_0 : ax_cr9 ax_w_163 ax_l_163 ax_t_163 40 1 40000 ax_p_163 ax_c_163_0 = true := by decide +kernel
set_option maxRecDepth 1000000 in
theorem ax_k_163_1 : ax_cr9 ax_w_163 ax_l_163 ax_t_163 40 1 40000 ax_p_163 ax_c_163_1 = true := by decide +kernel
set_option maxRecDepth 1000000 in
theorem ax_k_163_2 : ax_cr9 ax_w_163 ax_l_163 ax_t_163 40 1 40000 ax_p_163 ax_c_163_2 = true := by decide +kernel
theorem ax_y_163 {X : Nat × (Nat → Int32)} : ax_Y1 X ax_sp ax_rf ax_s_163 := ax_meth9 (c := ax_c_163_0) (T := ax_t_163) ax_Yn ⟨ax_k_163_0, ⟨ax_k_163_1, ⟨ax_k_163_2, trivial⟩⟩⟩ List.mem_cons_self rfl
/-! .all ('all', 0) -/
noncomputable def ax_c_164_0 : ax_ct := (0, (3, [((-2147483648), 2147483647), ((-2147483648), 2147483647), ((-2147483648), 2147483647)], [], [], []), [], [some (.ref 0), some (.retAddr 0), some (.retAddr 1), some (.retAddr 2)], [(0, 1, .int 0), (0, 2, .int 0), (0, 3, .int 0)], [], [])
noncomputable def ax_t_164 : List ax_ct := [ax_c_164_0]
noncomputable def ax_w_164 : ax_D := ([(15, 0), (15, 1), (15, 2), (15, 3), (15, 4), (15, 5), (15, 6), (15, 7), (15, 8), (15, 9), (15, 10)], [(178, 179), (182, 193)])
noncomputable def ax_p_164 : ax_po := (some (some ((-2147483648), 2147483647)), [], false, false, [])
noncomputable def ax_s_164 : ax_s9 := (123, ax_sumc ax_sp ax_c_164_0 41, ax_w_164, ax_p_164)
noncomputable def ax_l_164 : ax_Y := [ax_s_155, ax_s_163]
set_option maxRecDepth 1000000 in
theorem ax_k_164_0 : ax_cr9 ax_w_164 ax_l_164 ax_t_164 123 41 40000 ax_p_164 ax_c_164_0 = true := by decide +kernel
theorem ax_y_164 {X : Nat × (Nat → Int32)} : ax_Y1 X ax_sp ax_rf ax_s_164 := ax_meth9 (c := ax_c_164_0) (T := ax_t_164) (ax_Yc ax_y_155 (ax_Yc ax_y_163 ax_Yn)) ⟨ax_k_164_0, trivial⟩ List.mem_cons_self rfl
/-! Model.allOwed ((),) -/
noncomputable def ax_c_165_0 : ax_ct := (0, (1, [(0, 150)], [], [], []), [(244, .int 7, .retAddr 0)], [some (.ref 244), none, none], [(1, 244, .int 7)], [(false, .int 20000), (false, .int 0)], [])
noncomputable def ax_c_165_1 : ax_ct := (4, (3, [(0, 150), (0, 144), ((-2147483648), 2147483647)], [], [], []), [(244, .int 7, .retAddr 2)], [some (.ref 244), some (.retAddr 0), some (.retAddr 1)], [(0, 1, .int 0), (0, 2, .int 0), (1, 244, .int 7)], [(false, .int 9996), (true, .retAddr 1)], [])
noncomputable def ax_t_165 : List ax_ct := [ax_c_165_0, ax_c_165_1]
noncomputable def ax_w_165 : ax_D := ([], [])
noncomputable def ax_p_165 : ax_po := (some (some ((-2147483648), 2147483647)), [], false, false, [])
noncomputable def ax_s_165 : ax_s9 := (206, ax_sumc ax_sp ax_c_165_0 1, ax_w_165, ax_p_165)
noncomputable def ax_l_165 : ax_Y := []
set_option maxRecDepth 1000000 in
theorem ax_k_165_0 : ax_cr9 ax_w_165 ax_l_165 ax_t_165 206 1 40000 ax_p_165 ax_c_165_0 = true := by decide +kernel
set_option maxRecDepth 1000000 in
theorem ax_k_165_1 : ax_cr9 ax_w_165 ax_l_165 ax_t_165 206 1 40000 ax_p_165 ax_c_165_1 = true := by decide +kernel
theorem ax_y_165 {X : Nat × (Nat → Int32)} : ax_Y1 X ax_sp ax_rf ax_s_165 := ax_meth9 (c := ax_c_165_0) (T := ax_t_165) ax_Yn ⟨ax_k_165_0, ⟨ax_k_165_1, trivial⟩⟩ List.mem_cons_self rfl
/-! Model.all ('all', 0) -/
noncomputable def ax_c_166_0 : ax_ct := (0, (3, [((-2147483648), 2147483647), ((-2147483648), 2147483647), ((-2147483648), 2147483647)], [], [], []), [], [some (.ref 244), some (.retAddr 0), some (.retAddr 1), some (.retAddr 2)], [(0, 1, .int 0), (0, 2, .int 0), (0, 3, .int 0)], [], [])
noncomputable def ax_t_166 : List ax_ct := [ax_c_166_0]
noncomputable def ax_w_166 : ax_D := ([(244, 19), (244, 20), (244, 21), (244, 30)], [(259, 268)])
noncomputable def ax_p_166 : ax_po := (some (some ((-2147483648), 2147483647)), [], false, false, [])
noncomputable def ax_s_166 : ax_s9 := (207, ax_sumc ax_sp ax_c_166_0 8, ax_w_166, ax_p_166)
noncomputable def ax_l_166 : ax_Y := [ax_s_158, ax_s_165]
set_option maxRecDepth 1000000 in
theorem ax_k_166_0 : ax_cr9 ax_w_166 ax_l_166 ax_t_166 207 8 40000 ax_p_166 ax_c_166_0 = true := by decide +kernel
theorem ax_y_166 {X : Nat × (Nat → Int32)} : ax_Y1 X ax_sp ax_rf ax_s_166 := ax_meth9 (c := ax_c_166_0) (T := ax_t_166) (ax_Yc ax_y_158 (ax_Yc ax_y_165 ax_Yn)) ⟨ax_k_166_0, trivial⟩ List.mem_cons_self rfl
/-! $Rings.nextOf ((),) -/
noncomputable def ax_c_167_0 : ax_ct := (0, (4, [(0, 150), ((-4), 5), (0, 11), (0, 11)], [], [], []), [(14, .int 16, .retAddr 3)], [some (.ref 194), some (.retAddr 0), some (.retAddr 1), some (.retAddr 2), none], [(0, 1, .int 0), (0, 2, .int 0), (0, 3, .int 0), (1, 14, .int 16)], [(false, .int 20000), (false, .int 0)], [])
noncomputable def ax_c_167_1 : ax_ct := (3, (5, [(0, 150), (0, 12), ((-4), 5), (0, 11), (0, 11)], [], [], [(1, 3, 0)]), [(14, .int 16, .retAddr 4)], [some (.ref 194), some (.retAddr 0), some (.retAddr 1), some (.retAddr 2), some (.retAddr 3)], [(0, 1, .int 0), (0, 2, .int 0), (0, 3, .int 0), (0, 4, .int 0), (1, 14, .int 16)], [(false, .int 9997), (true, .retAddr 3)], [])
noncomputable def ax_t_167 : List ax_ct := [ax_c_167_0, ax_c_167_1]
noncomputable def ax_w_167 : ax_D := ([], [])
noncomputable def ax_p_167 : ax_po := (some (some ((-4), 11)), [], false, false, [])
noncomputable def ax_s_167 : ax_s9 := (82, ax_sumc ax_sp ax_c_167_0 1, ax_w_167, ax_p_167)
noncomputable def ax_l_167 : ax_Y := []
set_option maxRecDepth 1000000 in
theorem ax_k_167_0 : ax_cr9 ax_w_167 ax_l_167 ax_t_167 82 1 40000 ax_p_167 ax_c_167_0 = true := by decide +kernel
set_option maxRecDepth 1000000 in
theorem ax_k_167_1 : ax_cr9 ax_w_167 ax_l_167 ax_t_167 82 1 40000 ax_p_167 ax_c_167_1 = true := by decide +kernel
theorem ax_y_167 {X : Nat × (Nat → Int32)} : ax_Y1 X ax_sp ax_rf ax_s_167 := ax_meth9 (c := ax_c_167_0) (T := ax_t_167) ax_Yn ⟨ax_k_167_0, ⟨ax_k_167_1, trivial⟩⟩ List.mem_cons_self rfl
/-! $Rings.lengthFrom ((),) -/
noncomputable def ax_c_168_0 : ax_ct := (0, (2, [(0, 150), (0, 11)], [], [], []), [(14, .int 16, .retAddr 1)], [some (.ref 194), some (.retAddr 0), none], [(0, 1, .int 0), (1, 14, .int 16)], [(false, .int 20000), (false, .int 0)], [])
noncomputable def ax_c_168_1 : ax_ct := (2, (3, [(0, 150), (2, 7), (0, 11)], [], [], []), [(14, .int 16, .retAddr 2)], [some (.ref 194), some (.retAddr 0), some (.retAddr 1)], [(0, 1, .int 0), (0, 2, .int 0), (1, 14, .int 16)], [(false, .int 9998), (true, .retAddr 1)], [])
noncomputable def ax_t_168 : List ax_ct := [ax_c_168_0, ax_c_168_1]
noncomputable def ax_w_168 : ax_D := ([], [])
noncomputable def ax_p_168 : ax_po := (some (some (0, 6)), [], false, false, [])
noncomputable def ax_s_168 : ax_s9 := (83, ax_sumc ax_sp ax_c_168_0 2, ax_w_168, ax_p_168)
noncomputable def ax_l_168 : ax_Y := [ax_s_167]
set_option maxRecDepth 1000000 in
theorem ax_k_168_0 : ax_cr9 ax_w_168 ax_l_168 ax_t_168 83 2 40000 ax_p_168 ax_c_168_0 = true := by decide +kernel
set_option maxRecDepth 1000000 in
theorem ax_k_168_1 : ax_cr9 ax_w_168 ax_l_168 ax_t_168 83 2 40000 ax_p_168 ax_c_168_1 = true := by decide +kernel
theorem ax_y_168 {X : Nat × (Nat → Int32)} : ax_Y1 X ax_sp ax_rf ax_s_168 := ax_meth9 (c := ax_c_168_0) (T := ax_t_168) (ax_Yc ax_y_167 ax_Yn) ⟨ax_k_168_0, ⟨ax_k_168_1, trivial⟩⟩ List.mem_cons_self rfl
/-! $Rings.layStepsTo ((),) -/
noncomputable def ax_c_169_0 : ax_ct := (0, (2, [(0, 150), (0, 11)], [], [], []), [(14, .int 16, .retAddr 1)], [some (.ref 194), some (.retAddr 0), none, none], [(0, 1, .int 0), (1, 14, .int 16)], [(false, .int 20000), (false, .int 0), (false, .int 20000), (false, .int 0)], [])
noncomputable def ax_c_169_1 : ax_ct := (18, (3, [(0, 150), (1, 6), (0, 11)], [], [], []), [(14, .int 16, .retAddr 2)], [some (.ref 194), some (.retAddr 0), some (.retAddr 1), none], [(0, 1, .int 0), (0, 2, .int 0), (1, 14, .int 16)], [(false, .int 9982), (true, .retAddr 1), (false, .int 20000), (false, .int 0)], [])
noncomputable def ax_c_169_2 : ax_ct := (28, (4, [(0, 150), (1, 12), (1, 5), (0, 11)], [], [], [(0, 2, 1)]), [(14, .int 16, .retAddr 3)], [some (.ref 194), some (.retAddr 0), some (.retAddr 1), some (.retAddr 2)], [(0, 1, .int 0), (0, 2, .int 0), (0, 3, .int 0), (1, 14, .int 16)], [(false, .int 9982), (true, .retAddr 1), (false, .int 9972), (true, .retAddr 2)], [])
noncomputable def ax_t_169 : List ax_ct := [ax_c_169_0, ax_c_169_1, ax_c_169_2]
noncomputable def ax_w_169 : ax_D := ([], [(196, 196)])
noncomputable def ax_p_169 : ax_po := (none, [], false, false, [])
noncomputable def ax_s_169 : ax_s9 := (81, ax_sumc ax_sp ax_c_169_0 2, ax_w_169, ax_p_169)
noncomputable def ax_l_169 : ax_Y := [ax_s_167]
set_option maxRecDepth 1000000 in
theorem ax_k_169_0 : ax_cr9 ax_w_169 ax_l_169 ax_t_169 81 2 40000 ax_p_169 ax_c_169_0 = true := by decide +kernel
set_option maxRecDepth 1000000 in
theorem ax_k_169_1 : ax_cr9 ax_w_169 ax_l_169 ax_t_169 81 2 40000 ax_p_169 ax_c_169_1 = true := by decide +kernel
set_option maxRecDepth 1000000 in
theorem ax_k_169_2 : ax_cr9 ax_w_169 ax_l_169 ax_t_169 81 2 40000 ax_p_169 ax_c_169_2 = true := by decide +kernel
theorem ax_y_169 {X : Nat × (Nat → Int32)} : ax_Y1 X ax_sp ax_rf ax_s_169 := ax_meth9 (c := ax_c_169_0) (T := ax_t_169) (ax_Yc ax_y_167 ax_Yn) ⟨ax_k_169_0, ⟨ax_k_169_1, ⟨ax_k_169_2, trivial⟩⟩⟩ List.mem_cons_self rfl
/-! $Rings.follow ((),) -/
noncomputable def ax_c_170_0 : ax_ct := (0, (2, [(0, 150), (0, 11)], [], [], []), [(14, .int 16, .retAddr 1)], [some (.ref 194), some (.retAddr 0), none], [(0, 1, .int 0), (1, 14, .int 16)], [(false, .int 20000), (false, .int 0)], [])
noncomputable def ax_c_170_1 : ax_ct := (9, (3, [(0, 150), (1, 6), (0, 11)], [], [], []), [(14, .int 16, .retAddr 2)], [some (.ref 194), some (.retAddr 0), some (.retAddr 1)], [(0, 1, .int 0), (0, 2, .int 0), (1, 14, .int 16)], [(false, .int 9991), (true, .retAddr 1)], [])
noncomputable def ax_t_170 : List ax_ct := [ax_c_170_0, ax_c_170_1]
noncomputable def ax_w_170 : ax_D := ([], [(195, 195)])
noncomputable def ax_p_170 : ax_po := (none, [], false, false, [])
noncomputable def ax_s_170 : ax_s9 := (84, ax_sumc ax_sp ax_c_170_0 2, ax_w_170, ax_p_170)
noncomputable def ax_l_170 : ax_Y := [ax_s_167]
set_option maxRecDepth 1000000 in
theorem ax_k_170_0 : ax_cr9 ax_w_170 ax_l_170 ax_t_170 84 2 40000 ax_p_170 ax_c_170_0 = true := by decide +kernel
set_option maxRecDepth 1000000 in
theorem ax_k_170_1 : ax_cr9 ax_w_170 ax_l_170 ax_t_170 84 2 40000 ax_p_170 ax_c_170_1 = true := by decide +kernel
theorem ax_y_170 {X : Nat × (Nat → Int32)} : ax_Y1 X ax_sp ax_rf ax_s_170 := ax_meth9 (c := ax_c_170_0) (T := ax_t_170) (ax_Yc ax_y_167 ax_Yn) ⟨ax_k_170_0, ⟨ax_k_170_1, trivial⟩⟩ List.mem_cons_self rfl
/-! $Rings.find ((),) -/
noncomputable def ax_c_171_0 : ax_ct := (0, (1, [(0, 150)], [], [], []), [(14, .int 16, .retAddr 0)], [some (.ref 194), none, none, none], [(1, 14, .int 16)], [(false, .int 20000), (false, .int 0)], [])
noncomputable def ax_c_171_1 : ax_ct := (9, (3, [(0, 150), (0, 12), (0, 11)], [], [], [(0, 1, 0)]), [(14, .int 16, .retAddr 2)], [some (.ref 194), some (.retAddr 0), some (.retAddr 1), none], [(0, 1, .int 0), (0, 2, .int 0), (1, 14, .int 16)], [(false, .int 9991), (true, .retAddr 1)], [])
noncomputable def ax_t_171 : List ax_ct := [ax_c_171_0, ax_c_171_1]
noncomputable def ax_w_171 : ax_D := ([(194, 2)], [(195, 196)])
noncomputable def ax_p_171 : ax_po := (none, [], false, false, [])
noncomputable def ax_s_171 : ax_s9 := (80, ax_sumc ax_sp ax_c_171_0 3, ax_w_171, ax_p_171)
noncomputable def ax_l_171 : ax_Y := [ax_s_169, ax_s_168, ax_s_170]
set_option maxRecDepth 1000000 in
theorem ax_k_171_0 : ax_cr9 ax_w_171 ax_l_171 ax_t_171 80 3 40000 ax_p_171 ax_c_171_0 = true := by decide +kernel
set_option maxRecDepth 1000000 in
theorem ax_k_171_1 : ax_cr9 ax_w_171 ax_l_171 ax_t_171 80 3 40000 ax_p_171 ax_c_171_1 = true := by decide +kernel
theorem ax_y_171 {X : Nat × (Nat → Int32)} : ax_Y1 X ax_sp ax_rf ax_s_171 := ax_meth9 (c := ax_c_171_0) (T := ax_t_171) (ax_Yc ax_y_169 (ax_Yc ax_y_168 (ax_Yc ax_y_170 ax_Yn))) ⟨ax_k_171_0, ⟨ax_k_171_1, trivial⟩⟩ List.mem_cons_self rfl
/-! .shortest ('shortest', 0) -/
noncomputable def ax_c_172_0 : ax_ct := (0, (1, [((-2147483648), 2147483647)], [], [], []), [], [some (.ref 0), some (.retAddr 0)], [(0, 1, .int 0)], [], [])
noncomputable def ax_t_172 : List ax_ct := [ax_c_172_0]
noncomputable def ax_w_172 : ax_D := ([(15, 0), (15, 1), (15, 2), (15, 3), (15, 4), (15, 5), (15, 6), (15, 7), (15, 8), (15, 9), (15, 10), (194, 2)], [(178, 179), (182, 193), (195, 196)])
noncomputable def ax_p_172 : ax_po := (some (some ((-2147483648), 2147483647)), [], false, false, [])
noncomputable def ax_s_172 : ax_s9 := (124, ax_sumc ax_sp ax_c_172_0 41, ax_w_172, ax_p_172)
noncomputable def ax_l_172 : ax_Y := [ax_s_155, ax_s_171]
set_option maxRecDepth 1000000 in
theorem ax_k_172_0 : ax_cr9 ax_w_172 ax_l_172 ax_t_172 124 41 40000 ax_p_172 ax_c_172_0 = true := by decide +kernel
theorem ax_y_172 {X : Nat × (Nat → Int32)} : ax_Y1 X ax_sp ax_rf ax_s_172 := ax_meth9 (c := ax_c_172_0) (T := ax_t_172) (ax_Yc ax_y_155 (ax_Yc ax_y_171 ax_Yn)) ⟨ax_k_172_0, trivial⟩ List.mem_cons_self rfl
/-! Model.hasRing ((5,),) -/
noncomputable def ax_c_173_0 : ax_ct := (0, (2, [(0, 12), (0, 150)], [], [], []), [(244, .int 1, .retAddr 1), (244, .int 7, .retAddr 0)], [some (.ref 244), some (.int 5), none], [(1, 244, .int 7), (1, 244, .int 1)], [(false, .int 20000), (false, .int 0), (false, .int 0), (false, .int 0), (false, .int 0), (false, .int 0), (false, .int 0)], [])
noncomputable def ax_c_173_1 : ax_ct := (9, (9, [((-1), 12), ((-1), 12), ((-1), 12), ((-1), 12), ((-1), 12), (0, 12), (0, 12), (0, 150), (5, 5)], [], [], [(3, 2, 0), (2, 3, 0)]), [(269, .int 5, .retAddr 8), (269, .int 4, .retAddr 7), (269, .int 3, .retAddr 6), (269, .int 2, .retAddr 5), (269, .int 1, .retAddr 4), (269, .int 0, .retAddr 3), (244, .int 1, .retAddr 2), (244, .int 7, .retAddr 1)], [some (.ref 244), some (.retAddr 0), some (.int (-1))], [(0, 1, .int 0), (1, 244, .int 7), (1, 244, .int 1), (1, 269, .int 0), (1, 269, .int 1), (1, 269, .int 2), (1, 269, .int 3), (1, 269, .int 4), (1, 269, .int 5)], [(false, .int 9991), (true, .int 100), (true, .int 100), (true, .int 100), (true, .int 100), (true, .int 100), (true, .int 100)], [])
noncomputable def ax_c_173_2 : ax_ct := (9, (9, [((-1), 12), ((-1), 12), ((-1), 12), ((-1), 12), ((-1), 12), ((-1), 11), (0, 12), (0, 150), (5, 5)], [], [], [(3, 4, 0), (3, 2, 1)]), [(269, .int 5, .retAddr 8), (269, .int 4, .retAddr 7), (269, .int 3, .retAddr 6), (269, .int 2, .retAddr 5), (269, .int 1, .retAddr 4), (269, .int 0, .retAddr 3), (244, .int 1, .retAddr 2), (244, .int 7, .retAddr 1)], [some (.ref 244), some (.retAddr 0), some (.int 0)], [(0, 1, .int 0), (1, 244, .int 7), (1, 244, .int 1), (1, 269, .int 0), (1, 269, .int 1), (1, 269, .int 2), (1, 269, .int 3), (1, 269, .int 4), (1, 269, .int 5)], [(false, .int 9991), (true, .retAddr 3), (true, .int 100), (true, .int 100), (true, .int 100), (true, .int 100), (true, .int 100)], [])
noncomputable def ax_c_173_3 : ax_ct := (9, (9, [((-1), 12), ((-1), 12), ((-1), 12), ((-1), 12), ((-1), 11), (0, 11), (1, 12), (0, 150), (5, 5)], [], [], [(4, 2, 1), (3, 2, 1)]), [(269, .int 5, .retAddr 8), (269, .int 4, .retAddr 7), (269, .int 3, .retAddr 6), (269, .int 2, .retAddr 5), (269, .int 1, .retAddr 4), (269, .int 0, .retAddr 3), (244, .int 1, .retAddr 2), (244, .int 7, .retAddr 1)], [some (.ref 244), some (.retAddr 0), some (.int 1)], [(0, 1, .int 0), (1, 244, .int 7), (1, 244, .int 1), (1, 269, .int 0), (1, 269, .int 1), (1, 269, .int 2), (1, 269, .int 3), (1, 269, .int 4), (1, 269, .int 5)], [(false, .int 9991), (true, .retAddr 3), (true, .retAddr 4), (true, .int 100), (true, .int 100), (true, .int 100), (true, .int 100)], [])
noncomputable def ax_c_173_4 : ax_ct := (9, (9, [((-1), 12), ((-1), 12), ((-1), 12), ((-1), 11), (1, 11), (0, 11), (1, 12), (0, 150), (5, 5)], [], [], [(5, 2, 1), (4, 2, 1), (3, 4, 1), (3, 2, 1)]), [(269, .int 5, .retAddr 8), (269, .int 4, .retAddr 7), (269, .int 3, .retAddr 6), (269, .int 2, .retAddr 5), (269, .int 1, .retAddr 4), (269, .int 0, .retAddr 3), (244, .int 1, .retAddr 2), (244, .int 7, .retAddr 1)], [some (.ref 244), some (.retAddr 0), some (.int 2)], [(0, 1, .int 0), (1, 244, .int 7), (1, 244, .int 1), (1, 269, .int 0), (1, 269, .int 1), (1, 269, .int 2), (1, 269, .int 3), (1, 269, .int 4), (1, 269, .int 5)], [(false, .int 9991), (true, .retAddr 3), (true, .retAddr 4), (true, .retAddr 5), (true, .int 100), (true, .int 100), (true, .int 100)], [])
noncomputable def ax_c_173_5 : ax_ct := (9, (9, [((-1), 12), ((-1), 12), ((-1), 11), (1, 11), (1, 11), (0, 11), (1, 12), (0, 150), (5, 5)], [], [], [(6, 2, 1), (5, 2, 1), (4, 2, 1), (3, 5, 1), (3, 4, 1), (3, 2, 1)]), [(269, .int 5, .retAddr 8), (269, .int 4, .retAddr 7), (269, .int 3, .retAddr 6), (269, .int 2, .retAddr 5), (269, .int 1, .retAddr 4), (269, .int 0, .retAddr 3), (244, .int 1, .retAddr 2), (244, .int 7, .retAddr 1)], [some (.ref 244), some (.retAddr 0), some (.int 3)], [(0, 1, .int 0), (1, 244, .int 7), (1, 244, .int 1), (1, 269, .int 0), (1, 269, .int 1), (1, 269, .int 2), (1, 269, .int 3), (1, 269, .int 4), (1, 269, .int 5)], [(false, .int 9991), (true, .retAddr 3), (true, .retAddr 4), (true, .retAddr 5), (true, .retAddr 6), (true, .int 100), (true, .int 100)], [])
noncomputable def ax_c_173_6 : ax_ct := (9, (9, [((-1), 12), ((-1), 11), (1, 11), (1, 11), (1, 11), (0, 11), (1, 12), (0, 150), (5, 5)], [], [], [(7, 2, 1), (6, 2, 1), (5, 2, 1), (4, 2, 1), (3, 6, 1), (3, 5, 1), (3, 4, 1), (3, 2, 1)]), [(269, .int 5, .retAddr 8), (269, .int 4, .retAddr 7), (269, .int 3, .retAddr 6), (269, .int 2, .retAddr 5), (269, .int 1, .retAddr 4), (269, .int 0, .retAddr 3), (244, .int 1, .retAddr 2), (244, .int 7, .retAddr 1)], [some (.ref 244), some (.retAddr 0), some (.int 4)], [(0, 1, .int 0), (1, 244, .int 7), (1, 244, .int 1), (1, 269, .int 0), (1, 269, .int 1), (1, 269, .int 2), (1, 269, .int 3), (1, 269, .int 4), (1, 269, .int 5)], [(false, .int 9991), (true, .retAddr 3), (true, .retAddr 4), (true, .retAddr 5), (true, .retAddr 6), (true, .retAddr 7), (true, .int 100)], [])
noncomputable def ax_t_173 : List ax_ct := [ax_c_173_0, ax_c_173_1, ax_c_173_2, ax_c_173_3, ax_c_173_4, ax_c_173_5, ax_c_173_6]
noncomputable def ax_w_173 : ax_D := ([], [(269, 269)])
noncomputable def ax_p_173 : ax_po := (some (some (0, 1)), [], false, false, [(269, 0, 0, 11), (269, 1, 0, 11), (269, 2, 0, 11), (269, 3, 0, 11), (269, 4, 0, 11)])
noncomputable def ax_s_173 : ax_s9 := (209, ax_sumc ax_sp ax_c_173_0 1, ax_w_173, ax_p_173)
noncomputable def ax_l_173 : ax_Y := []
set_option maxRecDepth 1000000 in
theorem ax_k_173_0 : ax_cr9 ax_w_173 ax_l_173 ax_t_173 209 1 40000 ax_p_173 ax_c_173_0 = true := by decide +kernel
set_option maxRecDepth 1000000 in
theorem ax_k_173_1 : ax_cr9 ax_w_173 ax_l_173 ax_t_173 209 1 40000 ax_p_173 ax_c_173_1 = true := by decide +kernel
set_option maxRecDepth 1000000 in
theorem ax_k_173_2 : ax_cr9 ax_w_173 ax_l_173 ax_t_173 209 1 40000 ax_p_173 ax_c_173_2 = true := by decide +kernel
set_option maxRecDepth 1000000 in
theorem ax_k_173_3 : ax_cr9 ax_w_173 ax_l_173 ax_t_173 209 1 40000 ax_p_173 ax_c_173_3 = true := by decide +kernel
set_option maxRecDepth 1000000 in
theorem ax_k_173_4 : ax_cr9 ax_w_173 ax_l_173 ax_t_173 209 1 40000 ax_p_173 ax_c_173_4 = true := by decide +kernel
set_option maxRecDepth 1000000 in
theorem ax_k_173_5 : ax_cr9 ax_w_173 ax_l_173 ax_t_173 209 1 40000 ax_p_173 ax_c_173_5 = true := by decide +kernel
set_option maxRecDepth 1000000 in
theorem ax_k_173_6 : ax_cr9 ax_w_173 ax_l_173 ax_t_173 209 1 40000 ax_p_173 ax_c_173_6 = true := by decide +kernel
theorem ax_y_173 {X : Nat × (Nat → Int32)} : ax_Y1 X ax_sp ax_rf ax_s_173 := ax_meth9 (c := ax_c_173_0) (T := ax_t_173) ax_Yn ⟨ax_k_173_0, ⟨ax_k_173_1, ⟨ax_k_173_2, ⟨ax_k_173_3, ⟨ax_k_173_4, ⟨ax_k_173_5, ⟨ax_k_173_6, trivial⟩⟩⟩⟩⟩⟩⟩ List.mem_cons_self rfl
/-! Model.hasRing ((4,),) -/
noncomputable def ax_c_174_0 : ax_ct := (0, (2, [(0, 12), (0, 150)], [], [], []), [(244, .int 1, .retAddr 1), (244, .int 7, .retAddr 0)], [some (.ref 244), some (.int 4), none], [(1, 244, .int 7), (1, 244, .int 1)], [(false, .int 20000), (false, .int 0), (false, .int 0), (false, .int 0), (false, .int 0), (false, .int 0), (false, .int 0)], [])
noncomputable def ax_c_174_1 : ax_ct := (9, (9, [((-1), 12), ((-1), 12), ((-1), 12), ((-1), 12), ((-1), 12), (0, 12), (0, 12), (0, 150), (4, 4)], [], [], [(3, 2, 0), (2, 3, 0)]), [(269, .int 5, .retAddr 8), (269, .int 4, .retAddr 7), (269, .int 3, .retAddr 6), (269, .int 2, .retAddr 5), (269, .int 1, .retAddr 4), (269, .int 0, .retAddr 3), (244, .int 1, .retAddr 2), (244, .int 7, .retAddr 1)], [some (.ref 244), some (.retAddr 0), some (.int (-1))], [(0, 1, .int 0), (1, 244, .int 7), (1, 244, .int 1), (1, 269, .int 0), (1, 269, .int 1), (1, 269, .int 2), (1, 269, .int 3), (1, 269, .int 4), (1, 269, .int 5)], [(false, .int 9991), (true, .int 100), (true, .int 100), (true, .int 100), (true, .int 100), (true, .int 100), (true, .int 100)], [])
noncomputable def ax_c_174_2 : ax_ct := (9, (9, [((-1), 12), ((-1), 12), ((-1), 12), ((-1), 12), ((-1), 12), ((-1), 11), (0, 12), (0, 150), (4, 4)], [], [], [(3, 4, 0), (3, 2, 1)]), [(269, .int 5, .retAddr 8), (269, .int 4, .retAddr 7), (269, .int 3, .retAddr 6), (269, .int 2, .retAddr 5), (269, .int 1, .retAddr 4), (269, .int 0, .retAddr 3), (244, .int 1, .retAddr 2), (244, .int 7, .retAddr 1)], [some (.ref 244), some (.retAddr 0), some (.int 0)], [(0, 1, .int 0), (1, 244, .int 7), (1, 244, .int 1), (1, 269, .int 0), (1, 269, .int 1), (1, 269, .int 2), (1, 269, .int 3), (1, 269, .int 4), (1, 269, .int 5)], [(false, .int 9991), (true, .retAddr 3), (true, .int 100), (true, .int 100), (true, .int 100), (true, .int 100), (true, .int 100)], [])
noncomputable def ax_c_174_3 : ax_ct := (9, (9, [((-1), 12), ((-1), 12), ((-1), 12), ((-1), 12), ((-1), 11), (0, 11), (1, 12), (0, 150), (4, 4)], [], [], [(4, 2, 1), (3, 2, 1)]), [(269, .int 5, .retAddr 8), (269, .int 4, .retAddr 7), (269, .int 3, .retAddr 6), (269, .int 2, .retAddr 5), (269, .int 1, .retAddr 4), (269, .int 0, .retAddr 3), (244, .int 1, .retAddr 2), (244, .int 7, .retAddr 1)], [some (.ref 244), some (.retAddr 0), some (.int 1)], [(0, 1, .int 0), (1, 244, .int 7), (1, 244, .int 1), (1, 269, .int 0), (1, 269, .int 1), (1, 269, .int 2), (1, 269, .int 3), (1, 269, .int 4), (1, 269, .int 5)], [(false, .int 9991), (true, .retAddr 3), (true, .retAddr 4), (true, .int 100), (true, .int 100), (true, .int 100), (true, .int 100)], [])
noncomputable def ax_c_174_4 : ax_ct := (9, (9, [((-1), 12), ((-1), 12), ((-1), 12), ((-1), 11), (1, 11), (0, 11), (1, 12), (0, 150), (4, 4)], [], [], [(5, 2, 1), (4, 2, 1), (3, 4, 1), (3, 2, 1)]), [(269, .int 5, .retAddr 8), (269, .int 4, .retAddr 7), (269, .int 3, .retAddr 6), (269, .int 2, .retAddr 5), (269, .int 1, .retAddr 4), (269, .int 0, .retAddr 3), (244, .int 1, .retAddr 2), (244, .int 7, .retAddr 1)], [some (.ref 244), some (.retAddr 0), some (.int 2)], [(0, 1, .int 0), (1, 244, .int 7), (1, 244, .int 1), (1, 269, .int 0), (1, 269, .int 1), (1, 269, .int 2), (1, 269, .int 3), (1, 269, .int 4), (1, 269, .int 5)], [(false, .int 9991), (true, .retAddr 3), (true, .retAddr 4), (true, .retAddr 5), (true, .int 100), (true, .int 100), (true, .int 100)], [])
noncomputable def ax_c_174_5 : ax_ct := (9, (9, [((-1), 12), ((-1), 12), ((-1), 11), (1, 11), (1, 11), (0, 11), (1, 12), (0, 150), (4, 4)], [], [], [(6, 2, 1), (5, 2, 1), (4, 2, 1), (3, 5, 1), (3, 4, 1), (3, 2, 1)]), [(269, .int 5, .retAddr 8), (269, .int 4, .retAddr 7), (269, .int 3, .retAddr 6), (269, .int 2, .retAddr 5), (269, .int 1, .retAddr 4), (269, .int 0, .retAddr 3), (244, .int 1, .retAddr 2), (244, .int 7, .retAddr 1)], [some (.ref 244), some (.retAddr 0), some (.int 3)], [(0, 1, .int 0), (1, 244, .int 7), (1, 244, .int 1), (1, 269, .int 0), (1, 269, .int 1), (1, 269, .int 2), (1, 269, .int 3), (1, 269, .int 4), (1, 269, .int 5)], [(false, .int 9991), (true, .retAddr 3), (true, .retAddr 4), (true, .retAddr 5), (true, .retAddr 6), (true, .int 100), (true, .int 100)], [])
noncomputable def ax_t_174 : List ax_ct := [ax_c_174_0, ax_c_174_1, ax_c_174_2, ax_c_174_3, ax_c_174_4, ax_c_174_5]
noncomputable def ax_w_174 : ax_D := ([], [(269, 269)])
noncomputable def ax_p_174 : ax_po := (some (some (0, 1)), [], false, false, [(269, 0, 0, 11), (269, 1, 0, 11), (269, 2, 0, 11), (269, 3, 0, 11)])
noncomputable def ax_s_174 : ax_s9 := (209, ax_sumc ax_sp ax_c_174_0 1, ax_w_174, ax_p_174)
noncomputable def ax_l_174 : ax_Y := []
set_option maxRecDepth 1000000 in
theorem ax_k_174_0 : ax_cr9 ax_w_174 ax_l_174 ax_t_174 209 1 40000 ax_p_174 ax_c_174_0 = true := by decide +kernel
set_option maxRecDepth 1000000 in
theorem ax_k_174_1 : ax_cr9 ax_w_174 ax_l_174 ax_t_174 209 1 40000 ax_p_174 ax_c_174_1 = true := by decide +kernel
set_option maxRecDepth 1000000 in
theorem ax_k_174_2 : ax_cr9 ax_w_174 ax_l_174 ax_t_174 209 1 40000 ax_p_174 ax_c_174_2 = true := by decide +kernel
set_option maxRecDepth 1000000 in
theorem ax_k_174_3 : ax_cr9 ax_w_174 ax_l_174 ax_t_174 209 1 40000 ax_p_174 ax_c_174_3 = true := by decide +kernel
set_option maxRecDepth 1000000 in
theorem ax_k_174_4 : ax_cr9 ax_w_174 ax_l_174 ax_t_174 209 1 40000 ax_p_174 ax_c_174_4 = true := by decide +kernel
set_option maxRecDepth 1000000 in
theorem ax_k_174_5 : ax_cr9 ax_w_174 ax_l_174 ax_t_174 209 1 40000 ax_p_174 ax_c_174_5 = true := by decide +kernel
theorem ax_y_174 {X : Nat × (Nat → Int32)} : ax_Y1 X ax_sp ax_rf ax_s_174 := ax_meth9 (c := ax_c_174_0) (T := ax_t_174) ax_Yn ⟨ax_k_174_0, ⟨ax_k_174_1, ⟨ax_k_174_2, ⟨ax_k_174_3, ⟨ax_k_174_4, ⟨ax_k_174_5, trivial⟩⟩⟩⟩⟩⟩ List.mem_cons_self rfl
/-! Model.hasRing ((2,),) -/
noncomputable def ax_c_175_0 : ax_ct := (0, (2, [(0, 12), (0, 150)], [], [], []), [(244, .int 1, .retAddr 1), (244, .int 7, .retAddr 0)], [some (.ref 244), some (.int 2), none], [(1, 244, .int 7), (1, 244, .int 1)], [(false, .int 20000), (false, .int 0), (false, .int 0), (false, .int 0), (false, .int 0), (false, .int 0), (false, .int 0)], [])
noncomputable def ax_c_175_1 : ax_ct := (9, (9, [((-1), 12), ((-1), 12), ((-1), 12), ((-1), 12), ((-1), 12), (0, 12), (0, 12), (0, 150), (2, 2)], [], [], [(3, 2, 0), (2, 3, 0)]), [(269, .int 5, .retAddr 8), (269, .int 4, .retAddr 7), (269, .int 3, .retAddr 6), (269, .int 2, .retAddr 5), (269, .int 1, .retAddr 4), (269, .int 0, .retAddr 3), (244, .int 1, .retAddr 2), (244, .int 7, .retAddr 1)], [some (.ref 244), some (.retAddr 0), some (.int (-1))], [(0, 1, .int 0), (1, 244, .int 7), (1, 244, .int 1), (1, 269, .int 0), (1, 269, .int 1), (1, 269, .int 2), (1, 269, .int 3), (1, 269, .int 4), (1, 269, .int 5)], [(false, .int 9991), (true, .int 100), (true, .int 100), (true, .int 100), (true, .int 100), (true, .int 100), (true, .int 100)], [])
noncomputable def ax_c_175_2 : ax_ct := (9, (9, [((-1), 12), ((-1), 12), ((-1), 12), ((-1), 12), ((-1), 12), ((-1), 11), (0, 12), (0, 150), (2, 2)], [], [], [(3, 4, 0), (3, 2, 1)]), [(269, .int 5, .retAddr 8), (269, .int 4, .retAddr 7), (269, .int 3, .retAddr 6), (269, .int 2, .retAddr 5), (269, .int 1, .retAddr 4), (269, .int 0, .retAddr 3), (244, .int 1, .retAddr 2), (244, .int 7, .retAddr 1)], [some (.ref 244), some (.retAddr 0), some (.int 0)], [(0, 1, .int 0), (1, 244, .int 7), (1, 244, .int 1), (1, 269, .int 0), (1, 269, .int 1), (1, 269, .int 2), (1, 269, .int 3), (1, 269, .int 4), (1, 269, .int 5)], [(false, .int 9991), (true, .retAddr 3), (true, .int 100), (true, .int 100), (true, .int 100), (true, .int 100), (true, .int 100)], [])
noncomputable def ax_c_175_3 : ax_ct := (9, (9, [((-1), 12), ((-1), 12), ((-1), 12), ((-1), 12), ((-1), 11), (0, 11), (1, 12), (0, 150), (2, 2)], [], [], [(4, 2, 1), (3, 2, 1)]), [(269, .int 5, .retAddr 8), (269, .int 4, .retAddr 7), (269, .int 3, .retAddr 6), (269, .int 2, .retAddr 5), (269, .int 1, .retAddr 4), (269, .int 0, .retAddr 3), (244, .int 1, .retAddr 2), (244, .int 7, .retAddr 1)], [some (.ref 244), some (.retAddr 0), some (.int 1)], [(0, 1, .int 0), (1, 244, .int 7), (1, 244, .int 1), (1, 269, .int 0), (1, 269, .int 1), (1, 269, .int 2), (1, 269, .int 3), (1, 269, .int 4), (1, 269, .int 5)], [(false, .int 9991), (true, .retAddr 3), (true, .retAddr 4), (true, .int 100), (true, .int 100), (true, .int 100), (true, .int 100)], [])
noncomputable def ax_t_175 : List ax_ct := [ax_c_175_0, ax_c_175_1, ax_c_175_2, ax_c_175_3]
noncomputable def ax_w_175 : ax_D := ([], [(269, 269)])
noncomputable def ax_p_175 : ax_po := (some (some (0, 1)), [], false, false, [(269, 0, 0, 11), (269, 1, 0, 11)])
noncomputable def ax_s_175 : ax_s9 := (209, ax_sumc ax_sp ax_c_175_0 1, ax_w_175, ax_p_175)
noncomputable def ax_l_175 : ax_Y := []
set_option maxRecDepth 1000000 in
theorem ax_k_175_0 : ax_cr9 ax_w_175 ax_l_175 ax_t_175 209 1 40000 ax_p_175 ax_c_175_0 = true := by decide +kernel
set_option maxRecDepth 1000000 in
theorem ax_k_175_1 : ax_cr9 ax_w_175 ax_l_175 ax_t_175 209 1 40000 ax_p_175 ax_c_175_1 = true := by decide +kernel
set_option maxRecDepth 1000000 in
theorem ax_k_175_2 : ax_cr9 ax_w_175 ax_l_175 ax_t_175 209 1 40000 ax_p_175 ax_c_175_2 = true := by decide +kernel
set_option maxRecDepth 1000000 in
theorem ax_k_175_3 : ax_cr9 ax_w_175 ax_l_175 ax_t_175 209 1 40000 ax_p_175 ax_c_175_3 = true := by decide +kernel
theorem ax_y_175 {X : Nat × (Nat → Int32)} : ax_Y1 X ax_sp ax_rf ax_s_175 := ax_meth9 (c := ax_c_175_0) (T := ax_t_175) ax_Yn ⟨ax_k_175_0, ⟨ax_k_175_1, ⟨ax_k_175_2, ⟨ax_k_175_3, trivial⟩⟩⟩⟩ List.mem_cons_self rfl
/-! Model.hasRing ((6,),) -/
noncomputable def ax_c_176_0 : ax_ct := (0, (2, [(0, 12), (0, 150)], [], [], []), [(244, .int 1, .retAddr 1), (244, .int 7, .retAddr 0)], [some (.ref 244), some (.int 6), none], [(1, 244, .int 7), (1, 244, .int 1)], [(false, .int 20000), (false, .int 0), (false, .int 0), (false, .int 0), (false, .int 0), (false, .int 0), (false, .int 0)], [])
noncomputable def ax_c_176_1 : ax_ct := (9, (9, [((-1), 12), ((-1), 12), ((-1), 12), ((-1), 12), ((-1), 12), (0, 12), (0, 12), (0, 150), (6, 6)], [], [], [(3, 2, 0), (2, 3, 0)]), [(269, .int 5, .retAddr 8), (269, .int 4, .retAddr 7), (269, .int 3, .retAddr 6), (269, .int 2, .retAddr 5), (269, .int 1, .retAddr 4), (269, .int 0, .retAddr 3), (244, .int 1, .retAddr 2), (244, .int 7, .retAddr 1)], [some (.ref 244), some (.retAddr 0), some (.int (-1))], [(0, 1, .int 0), (1, 244, .int 7), (1, 244, .int 1), (1, 269, .int 0), (1, 269, .int 1), (1, 269, .int 2), (1, 269, .int 3), (1, 269, .int 4), (1, 269, .int 5)], [(false, .int 9991), (true, .int 100), (true, .int 100), (true, .int 100), (true, .int 100), (true, .int 100), (true, .int 100)], [])
noncomputable def ax_c_176_2 : ax_ct := (9, (9, [((-1), 12), ((-1), 12), ((-1), 12), ((-1), 12), ((-1), 12), ((-1), 11), (0, 12), (0, 150), (6, 6)], [], [], [(3, 4, 0), (3, 2, 1)]), [(269, .int 5, .retAddr 8), (269, .int 4, .retAddr 7), (269, .int 3, .retAddr 6), (269, .int 2, .retAddr 5), (269, .int 1, .retAddr 4), (269, .int 0, .retAddr 3), (244, .int 1, .retAddr 2), (244, .int 7, .retAddr 1)], [some (.ref 244), some (.retAddr 0), some (.int 0)], [(0, 1, .int 0), (1, 244, .int 7), (1, 244, .int 1), (1, 269, .int 0), (1, 269, .int 1), (1, 269, .int 2), (1, 269, .int 3), (1, 269, .int 4), (1, 269, .int 5)], [(false, .int 9991), (true, .retAddr 3), (true, .int 100), (true, .int 100), (true, .int 100), (true, .int 100), (true, .int 100)], [])
noncomputable def ax_c_176_3 : ax_ct := (9, (9, [((-1), 12), ((-1), 12), ((-1), 12), ((-1), 12), ((-1), 11), (0, 11), (1, 12), (0, 150), (6, 6)], [], [], [(4, 2, 1), (3, 2, 1)]), [(269, .int 5, .retAddr 8), (269, .int 4, .retAddr 7), (269, .int 3, .retAddr 6), (269, .int 2, .retAddr 5), (269, .int 1, .retAddr 4), (269, .int 0, .retAddr 3), (244, .int 1, .retAddr 2), (244, .int 7, .retAddr 1)], [some (.ref 244), some (.retAddr 0), some (.int 1)], [(0, 1, .int 0), (1, 244, .int 7), (1, 244, .int 1), (1, 269, .int 0), (1, 269, .int 1), (1, 269, .int 2), (1, 269, .int 3), (1, 269, .int 4), (1, 269, .int 5)], [(false, .int 9991), (true, .retAddr 3), (true, .retAddr 4), (true, .int 100), (true, .int 100), (true, .int 100), (true, .int 100)], [])
noncomputable def ax_c_176_4 : ax_ct := (9, (9, [((-1), 12), ((-1), 12), ((-1), 12), ((-1), 11), (1, 11), (0, 11), (1, 12), (0, 150), (6, 6)], [], [], [(5, 2, 1), (4, 2, 1), (3, 4, 1), (3, 2, 1)]), [(269, .int 5, .retAddr 8), (269, .int 4, .retAddr 7), (269, .int 3, .retAddr 6), (269, .int 2, .retAddr 5), (269, .int 1, .retAddr 4), (269, .int 0, .retAddr 3), (244, .int 1, .retAddr 2), (244, .int 7, .retAddr 1)], [some (.ref 244), some (.retAddr 0), some (.int 2)], [(0, 1, .int 0), (1, 244, .int 7), (1, 244, .int 1), (1, 269, .int 0), (1, 269, .int 1), (1, 269, .int 2), (1, 269, .int 3), (1, 269, .int 4), (1, 269, .int 5)], [(false, .int 9991), (true, .retAddr 3), (true, .retAddr 4), (true, .retAddr 5), (true, .int 100), (true, .int 100), (true, .int 100)], [])
noncomputable def ax_c_176_5 : ax_ct := (9, (9, [((-1), 12), ((-1), 12), ((-1), 11), (1, 11), (1, 11), (0, 11), (1, 12), (0, 150), (6, 6)], [], [], [(6, 2, 1), (5, 2, 1), (4, 2, 1), (3, 5, 1), (3, 4, 1), (3, 2, 1)]), [(269, .int 5, .retAddr 8), (269, .int 4, .retAddr 7), (269, .int 3, .retAddr 6), (269, .int 2, .retAddr 5), (269, .int 1, .retAddr 4), (269, .int 0, .retAddr 3), (244, .int 1, .retAddr 2), (244, .int 7, .retAddr 1)], [some (.ref 244), some (.retAddr 0), some (.int 3)], [(0, 1, .int 0), (1, 244, .int 7), (1, 244, .int 1), (1, 269, .int 0), (1, 269, .int 1), (1, 269, .int 2), (1, 269, .int 3), (1, 269, .int 4), (1, 269, .int 5)], [(false, .int 9991), (true, .retAddr 3), (true, .retAddr 4), (true, .retAddr 5), (true, .retAddr 6), (true, .int 100), (true, .int 100)], [])
noncomputable def ax_c_176_6 : ax_ct := (9, (9, [((-1), 12), ((-1), 11), (1, 11), (1, 11), (1, 11), (0, 11), (1, 12), (0, 150), (6, 6)], [], [], [(7, 2, 1), (6, 2, 1), (5, 2, 1), (4, 2, 1), (3, 6, 1), (3, 5, 1), (3, 4, 1), (3, 2, 1)]), [(269, .int 5, .retAddr 8), (269, .int 4, .retAddr 7), (269, .int 3, .retAddr 6), (269, .int 2, .retAddr 5), (269, .int 1, .retAddr 4), (269, .int 0, .retAddr 3), (244, .int 1, .retAddr 2), (244, .int 7, .retAddr 1)], [some (.ref 244), some (.retAddr 0), some (.int 4)], [(0, 1, .int 0), (1, 244, .int 7), (1, 244, .int 1), (1, 269, .int 0), (1, 269, .int 1), (1, 269, .int 2), (1, 269, .int 3), (1, 269, .int 4), (1, 269, .int 5)], [(false, .int 9991), (true, .retAddr 3), (true, .retAddr 4), (true, .retAddr 5), (true, .retAddr 6), (true, .retAddr 7), (true, .int 100)], [])
noncomputable def ax_c_176_7 : ax_ct := (9, (9, [((-1), 11), (1, 11), (1, 11), (1, 11), (1, 11), (0, 11), (1, 12), (0, 150), (6, 6)], [], [], [(8, 2, 1), (7, 2, 1), (6, 2, 1), (5, 2, 1), (4, 2, 1), (3, 7, 1), (3, 6, 1), (3, 5, 1), (3, 4, 1), (3, 2, 1)]), [(269, .int 5, .retAddr 8), (269, .int 4, .retAddr 7), (269, .int 3, .retAddr 6), (269, .int 2, .retAddr 5), (269, .int 1, .retAddr 4), (269, .int 0, .retAddr 3), (244, .int 1, .retAddr 2), (244, .int 7, .retAddr 1)], [some (.ref 244), some (.retAddr 0), some (.int 5)], [(0, 1, .int 0), (1, 244, .int 7), (1, 244, .int 1), (1, 269, .int 0), (1, 269, .int 1), (1, 269, .int 2), (1, 269, .int 3), (1, 269, .int 4), (1, 269, .int 5)], [(false, .int 9991), (true, .retAddr 3), (true, .retAddr 4), (true, .retAddr 5), (true, .retAddr 6), (true, .retAddr 7), (true, .retAddr 8)], [])
noncomputable def ax_t_176 : List ax_ct := [ax_c_176_0, ax_c_176_1, ax_c_176_2, ax_c_176_3, ax_c_176_4, ax_c_176_5, ax_c_176_6, ax_c_176_7]
noncomputable def ax_w_176 : ax_D := ([], [(269, 269)])
noncomputable def ax_p_176 : ax_po := (some (some (0, 1)), [], false, false, [(269, 0, 0, 11), (269, 1, 0, 11), (269, 2, 0, 11), (269, 3, 0, 11), (269, 4, 0, 11), (269, 5, 0, 11)])
noncomputable def ax_s_176 : ax_s9 := (209, ax_sumc ax_sp ax_c_176_0 1, ax_w_176, ax_p_176)
noncomputable def ax_l_176 : ax_Y := []
set_option maxRecDepth 1000000 in
theorem ax_k_176_0 : ax_cr9 ax_w_176 ax_l_176 ax_t_176 209 1 40000 ax_p_176 ax_c_176_0 = true := by decide +kernel
set_option maxRecDepth 1000000 in
theorem ax_k_176_1 : ax_cr9 ax_w_176 ax_l_176 ax_t_176 209 1 40000 ax_p_176 ax_c_176_1 = true := by decide +kernel
set_option maxRecDepth 1000000 in
theorem ax_k_176_2 : ax_cr9 ax_w_176 ax_l_176 ax_t_176 209 1 40000 ax_p_176 ax_c_176_2 = true := by decide +kernel
set_option maxRecDepth 1000000 in
theorem ax_k_176_3 : ax_cr9 ax_w_176 ax_l_176 ax_t_176 209 1 40000 ax_p_176 ax_c_176_3 = true := by decide +kernel
set_option maxRecDepth 1000000 in
theorem ax_k_176_4 : ax_cr9 ax_w_176 ax_l_176 ax_t_176 209 1 40000 ax_p_176 ax_c_176_4 = true := by decide +kernel
set_option maxRecDepth 1000000 in
theorem ax_k_176_5 : ax_cr9 ax_w_176 ax_l_176 ax_t_176 209 1 40000 ax_p_176 ax_c_176_5 = true := by decide +kernel
set_option maxRecDepth 1000000 in
theorem ax_k_176_6 : ax_cr9 ax_w_176 ax_l_176 ax_t_176 209 1 40000 ax_p_176 ax_c_176_6 = true := by decide +kernel
set_option maxRecDepth 1000000 in
theorem ax_k_176_7 : ax_cr9 ax_w_176 ax_l_176 ax_t_176 209 1 40000 ax_p_176 ax_c_176_7 = true := by decide +kernel
theorem ax_y_176 {X : Nat × (Nat → Int32)} : ax_Y1 X ax_sp ax_rf ax_s_176 := ax_meth9 (c := ax_c_176_0) (T := ax_t_176) ax_Yn ⟨ax_k_176_0, ⟨ax_k_176_1, ⟨ax_k_176_2, ⟨ax_k_176_3, ⟨ax_k_176_4, ⟨ax_k_176_5, ⟨ax_k_176_6, ⟨ax_k_176_7, trivial⟩⟩⟩⟩⟩⟩⟩⟩ List.mem_cons_self rfl
/-! Model.hasRing ((3,),) -/
noncomputable def ax_c_177_0 : ax_ct := (0, (2, [(0, 12), (0, 150)], [], [], []), [(244, .int 1, .retAddr 1), (244, .int 7, .retAddr 0)], [some (.ref 244), some (.int 3), none], [(1, 244, .int 7), (1, 244, .int 1)], [(false, .int 20000), (false, .int 0), (false, .int 0), (false, .int 0), (false, .int 0), (false, .int 0), (false, .int 0)], [])
noncomputable def ax_c_177_1 : ax_ct := (9, (9, [((-1), 12), ((-1), 12), ((-1), 12), ((-1), 12), ((-1), 12), (0, 12), (0, 12), (0, 150), (3, 3)], [], [], [(3, 2, 0), (2, 3, 0)]), [(269, .int 5, .retAddr 8), (269, .int 4, .retAddr 7), (269, .int 3, .retAddr 6), (269, .int 2, .retAddr 5), (269, .int 1, .retAddr 4), (269, .int 0, .retAddr 3), (244, .int 1, .retAddr 2), (244, .int 7, .retAddr 1)], [some (.ref 244), some (.retAddr 0), some (.int (-1))], [(0, 1, .int 0), (1, 244, .int 7), (1, 244, .int 1), (1, 269, .int 0), (1, 269, .int 1), (1, 269, .int 2), (1, 269, .int 3), (1, 269, .int 4), (1, 269, .int 5)], [(false, .int 9991), (true, .int 100), (true, .int 100), (true, .int 100), (true, .int 100), (true, .int 100), (true, .int 100)], [])
noncomputable def ax_c_177_2 : ax_ct := (9, (9, [((-1), 12), ((-1), 12), ((-1), 12), ((-1), 12), ((-1), 12), ((-1), 11), (0, 12), (0, 150), (3, 3)], [], [], [(3, 4, 0), (3, 2, 1)]), [(269, .int 5, .retAddr 8), (269, .int 4, .retAddr 7), (269, .int 3, .retAddr 6), (269, .int 2, .retAddr 5), (269, .int 1, .retAddr 4), (269, .int 0, .retAddr 3), (244, .int 1, .retAddr 2), (244, .int 7, .retAddr 1)], [some (.ref 244), some (.retAddr 0), some (.int 0)], [(0, 1, .int 0), (1, 244, .int 7), (1, 244, .int 1), (1, 269, .int 0), (1, 269, .int 1), (1, 269, .int 2), (1, 269, .int 3), (1, 269, .int 4), (1, 269, .int 5)], [(false, .int 9991), (true, .retAddr 3), (true, .int 100), (true, .int 100), (true, .int 100), (true, .int 100), (true, .int 100)], [])
noncomputable def ax_c_177_3 : ax_ct := (9, (9, [((-1), 12), ((-1), 12), ((-1), 12), ((-1), 12), ((-1), 11), (0, 11), (1, 12), (0, 150), (3, 3)], [], [], [(4, 2, 1), (3, 2, 1)]), [(269, .int 5, .retAddr 8), (269, .int 4, .retAddr 7), (269, .int 3, .retAddr 6), (269, .int 2, .retAddr 5), (269, .int 1, .retAddr 4), (269, .int 0, .retAddr 3), (244, .int 1, .retAddr 2), (244, .int 7, .retAddr 1)], [some (.ref 244), some (.retAddr 0), some (.int 1)], [(0, 1, .int 0), (1, 244, .int 7), (1, 244, .int 1), (1, 269, .int 0), (1, 269, .int 1), (1, 269, .int 2), (1, 269, .int 3), (1, 269, .int 4), (1, 269, .int 5)], [(false, .int 9991), (true, .retAddr 3), (true, .retAddr 4), (true, .int 100), (true, .int 100), (true, .int 100), (true, .int 100)], [])
noncomputable def ax_c_177_4 : ax_ct := (9, (9, [((-1), 12), ((-1), 12), ((-1), 12), ((-1), 11), (1, 11), (0, 11), (1, 12), (0, 150), (3, 3)], [], [], [(5, 2, 1), (4, 2, 1), (3, 4, 1), (3, 2, 1)]), [(269, .int 5, .retAddr 8), (269, .int 4, .retAddr 7), (269, .int 3, .retAddr 6), (269, .int 2, .retAddr 5), (269, .int 1, .retAddr 4), (269, .int 0, .retAddr 3), (244, .int 1, .retAddr 2), (244, .int 7, .retAddr 1)], [some (.ref 244), some (.retAddr 0), some (.int 2)], [(0, 1, .int 0), (1, 244, .int 7), (1, 244, .int 1), (1, 269, .int 0), (1, 269, .int 1), (1, 269, .int 2), (1, 269, .int 3), (1, 269, .int 4), (1, 269, .int 5)], [(false, .int 9991), (true, .retAddr 3), (true, .retAddr 4), (true, .retAddr 5), (true, .int 100), (true, .int 100), (true, .int 100)], [])
noncomputable def ax_t_177 : List ax_ct := [ax_c_177_0, ax_c_177_1, ax_c_177_2, ax_c_177_3, ax_c_177_4]
noncomputable def ax_w_177 : ax_D := ([], [(269, 269)])
noncomputable def ax_p_177 : ax_po := (some (some (0, 1)), [], false, false, [(269, 0, 0, 11), (269, 1, 0, 11), (269, 2, 0, 11)])
noncomputable def ax_s_177 : ax_s9 := (209, ax_sumc ax_sp ax_c_177_0 1, ax_w_177, ax_p_177)
noncomputable def ax_l_177 : ax_Y := []
set_option maxRecDepth 1000000 in
theorem ax_k_177_0 : ax_cr9 ax_w_177 ax_l_177 ax_t_177 209 1 40000 ax_p_177 ax_c_177_0 = true := by decide +kernel
set_option maxRecDepth 1000000 in
theorem ax_k_177_1 : ax_cr9 ax_w_177 ax_l_177 ax_t_177 209 1 40000 ax_p_177 ax_c_177_1 = true := by decide +kernel
set_option maxRecDepth 1000000 in
theorem ax_k_177_2 : ax_cr9 ax_w_177 ax_l_177 ax_t_177 209 1 40000 ax_p_177 ax_c_177_2 = true := by decide +kernel
set_option maxRecDepth 1000000 in
theorem ax_k_177_3 : ax_cr9 ax_w_177 ax_l_177 ax_t_177 209 1 40000 ax_p_177 ax_c_177_3 = true := by decide +kernel
set_option maxRecDepth 1000000 in
theorem ax_k_177_4 : ax_cr9 ax_w_177 ax_l_177 ax_t_177 209 1 40000 ax_p_177 ax_c_177_4 = true := by decide +kernel
theorem ax_y_177 {X : Nat × (Nat → Int32)} : ax_Y1 X ax_sp ax_rf ax_s_177 := ax_meth9 (c := ax_c_177_0) (T := ax_t_177) ax_Yn ⟨ax_k_177_0, ⟨ax_k_177_1, ⟨ax_k_177_2, ⟨ax_k_177_3, ⟨ax_k_177_4, trivial⟩⟩⟩⟩⟩ List.mem_cons_self rfl
