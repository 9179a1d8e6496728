/-! Model.shortest ('shortest', 0) -/
noncomputable def ax_c_178_0 : ax_ct := (0, (1, [((-2147483648), 2147483647)], [], [], []), [], [some (.ref 244), some (.retAddr 0)], [(0, 1, .int 0)], [], [])
noncomputable def ax_t_178 : List ax_ct := [ax_c_178_0]
noncomputable def ax_w_178 : ax_D := ([(244, 19), (244, 20), (244, 21), (244, 30), (244, 33)], [(259, 269)])
noncomputable def ax_p_178 : ax_po := (some (some ((-2147483648), 2147483647)), [], false, false, [])
noncomputable def ax_s_178 : ax_s9 := (212, ax_sumc ax_sp ax_c_178_0 9, ax_w_178, ax_p_178)
noncomputable def ax_l_178 : ax_Y := [ax_s_158, ax_s_175, ax_s_177, ax_s_174, ax_s_173, ax_s_176]
set_option maxRecDepth 1000000 in
theorem ax_k_178_0 : ax_cr9 ax_w_178 ax_l_178 ax_t_178 212 9 40000 ax_p_178 ax_c_178_0 = true := by decide +kernel
theorem ax_y_178 {X : Nat × (Nat → Int32)} : ax_Y1 X ax_sp ax_rf ax_s_178 := ax_meth9 (c := ax_c_178_0) (T := ax_t_178) (ax_Yc ax_y_158 (ax_Yc ax_y_175 (ax_Yc ax_y_177 (ax_Yc ax_y_174 (ax_Yc ax_y_173 (ax_Yc ax_y_176 ax_Yn)))))) ⟨ax_k_178_0, trivial⟩ List.mem_cons_self rfl
/-! $Book.tell ((5, ('L', 1)),) -/
noncomputable def ax_c_179_0 : ax_ct := (0, (6, [(1, 1), (0, 149), ((-2147483648), 2147483647), (0, 11), (0, 11), (0, 520)], [], [], []), [(174, .retAddr 4, .retAddr 5), (23, .retAddr 4, .long 1), (14, .int 16, .retAddr 4)], [some (.ref 14), some (.int 5), some (.retAddr 0), some (.retAddr 1), some (.retAddr 2), some (.retAddr 3), none], [(0, 2, .int 0), (0, 3, .int 0), (0, 4, .int 0), (0, 5, .int 0), (1, 14, .int 16), (1, 174, .retAddr 4)], [(false, .int 20000), (false, .int 0)], [(14, .int 16, .retAddr 4)])
noncomputable def ax_c_179_1 : ax_ct := (58, (11, [(1, 1), (0, 11), (0, 11), (5, 5), (0, 149), (0, 149), ((-2147483648), 2147483647), (0, 11), (0, 11), (0, 520), (5, 5)], [], [], [(9, 3, 0), (8, 2, 0), (5, 6, 0), (3, 9, 0), (2, 8, 0)]), [(23, .retAddr 6, .long 1), (174, .retAddr 6, .retAddr 10), (20, .retAddr 6, .retAddr 9), (19, .retAddr 6, .retAddr 8), (17, .retAddr 6, .retAddr 7), (14, .int 16, .retAddr 6)], [some (.ref 14), some (.retAddr 0), some (.retAddr 1), some (.retAddr 2), some (.retAddr 3), some (.retAddr 4), some (.retAddr 5)], [(0, 1, .int 0), (0, 2, .int 0), (0, 3, .int 0), (0, 4, .int 0), (0, 5, .int 0), (0, 6, .int 0), (1, 14, .int 16), (1, 17, .retAddr 6), (1, 19, .retAddr 6), (1, 20, .retAddr 6), (1, 174, .retAddr 6)], [(false, .int 9942), (false, .retAddr 5)], [(14, .int 16, .retAddr 6)])
noncomputable def ax_t_179 : List ax_ct := [ax_c_179_0, ax_c_179_1]
noncomputable def ax_w_179 : ax_D := ([(14, 16)], [(17, 21), (175, 175)])
noncomputable def ax_p_179 : ax_po := (some (some (0, 149)), [(14, 16, 1)], false, false, [])
noncomputable def ax_s_179 : ax_s9 := (20, ax_sumc ax_sp ax_c_179_0 1, ax_w_179, ax_p_179)
noncomputable def ax_l_179 : ax_Y := []
set_option maxRecDepth 1000000 in
theorem ax_k_179_0 : ax_cr9 ax_w_179 ax_l_179 ax_t_179 20 1 40000 ax_p_179 ax_c_179_0 = true := by decide +kernel
set_option maxRecDepth 1000000 in
theorem ax_k_179_1 : ax_cr9 ax_w_179 ax_l_179 ax_t_179 20 1 40000 ax_p_179 ax_c_179_1 = true := by decide +kernel
theorem ax_y_179 {X : Nat × (Nat → Int32)} : ax_Y1 X ax_sp ax_rf ax_s_179 := ax_meth9 (c := ax_c_179_0) (T := ax_t_179) ax_Yn ⟨ax_k_179_0, ⟨ax_k_179_1, trivial⟩⟩ List.mem_cons_self rfl
/-! .close ('close', 0) -/
noncomputable def ax_c_180_0 : ax_ct := (0, (2, [(0, 150), (0, 150)], [], [], [(0, 1, 0)]), [(14, .int 16, .retAddr 1), (14, .int 12, .retAddr 0)], [some (.ref 0), none, none, none], [(1, 14, .int 12), (1, 14, .int 16)], [(false, .int 20000), (false, .int 0)], [])
noncomputable def ax_c_180_1 : ax_ct := (25, (4, [(0, 150), (0, 150), (0, 150), ((-2147483648), 2147483647)], [], [(1, .int 150, .retAddr 2)], [(3, 2, 0)]), [(14, .int 12, .retAddr 3), (14, .int 16, .retAddr 2)], [some (.ref 0), some (.retAddr 0), some (.retAddr 1), none], [(0, 1, .int 0), (0, 2, .int 0), (1, 14, .int 16), (1, 14, .int 12)], [(false, .int 9975), (false, .retAddr 1)], [])
noncomputable def ax_t_180 : List ax_ct := [ax_c_180_0, ax_c_180_1]
noncomputable def ax_w_180 : ax_D := ([(14, 16), (15, 0), (15, 1), (15, 2), (15, 3), (15, 4), (15, 5), (15, 6), (15, 7), (15, 8), (15, 9), (15, 10), (194, 2)], [(17, 21), (24, 175), (178, 179), (182, 193), (195, 196)])
noncomputable def ax_p_180 : ax_po := (some (some ((-2147483648), 2147483647)), [], true, false, [])
noncomputable def ax_s_180 : ax_s9 := (125, ax_sumc ax_sp ax_c_180_0 41, ax_w_180, ax_p_180)
noncomputable def ax_l_180 : ax_Y := [ax_s_155, ax_s_171, ax_s_179, ax_s_80, ax_s_83, ax_s_81, ax_s_82, ax_s_79]
set_option maxRecDepth 1000000 in
theorem ax_k_180_0 : ax_cr9 ax_w_180 ax_l_180 ax_t_180 125 41 40000 ax_p_180 ax_c_180_0 = true := by decide +kernel
set_option maxRecDepth 1000000 in
theorem ax_k_180_1 : ax_cr9 ax_w_180 ax_l_180 ax_t_180 125 41 40000 ax_p_180 ax_c_180_1 = true := by decide +kernel
theorem ax_y_180 {X : Nat × (Nat → Int32)} : ax_Y1 X ax_sp ax_rf ax_s_180 := ax_meth9 (c := ax_c_180_0) (T := ax_t_180) (ax_Yc ax_y_155 (ax_Yc ax_y_171 (ax_Yc ax_y_179 (ax_Yc ax_y_80 (ax_Yc ax_y_83 (ax_Yc ax_y_81 (ax_Yc ax_y_82 (ax_Yc ax_y_79 ax_Yn)))))))) ⟨ax_k_180_0, ⟨ax_k_180_1, trivial⟩⟩ List.mem_cons_self rfl
/-! Model.close ('close', 0) -/
noncomputable def ax_c_181_0 : ax_ct := (0, (0, [], [], [], []), [], [some (.ref 244), none, none], [], [(false, .int 20000), (false, .int 0)], [])
noncomputable def ax_c_181_1 : ax_ct := (2, (2, [(0, 150), (0, 150)], [], [], [(0, 1, 0)]), [(244, .int 7, .retAddr 1)], [some (.ref 244), some (.retAddr 0), none], [(0, 1, .int 0), (1, 244, .int 7)], [(false, .int 9998), (true, .retAddr 0)], [])
noncomputable def ax_t_181 : List ax_ct := [ax_c_181_0, ax_c_181_1]
noncomputable def ax_w_181 : ax_D := ([(244, 7), (244, 19), (244, 20), (244, 21), (244, 30), (244, 33)], [(249, 256), (259, 269)])
noncomputable def ax_p_181 : ax_po := (some (some (0, 150)), [], false, false, [])
noncomputable def ax_s_181 : ax_s9 := (213, ax_sumc ax_sp ax_c_181_0 9, ax_w_181, ax_p_181)
/-! $Settling.goOnFrom ((),) -/
noncomputable def ax_c_182_0 : ax_ct := (0, (2, [(0, 150), (0, 11)], [], [], []), [(14, .int 16, .retAddr 1)], [some (.ref 197), some (.retAddr 0), none, none, none], [(0, 1, .int 0), (1, 14, .int 16)], [(false, .int 20000), (false, .int 0)], [])
noncomputable def ax_c_182_1 : ax_ct := (4, (4, [(0, 150), (0, 12), (0, 1), (0, 11)], [], [], [(1, 2, 0)]), [(14, .int 16, .retAddr 3)], [some (.ref 197), some (.retAddr 0), some (.retAddr 1), some (.retAddr 2), none], [(0, 1, .int 0), (0, 2, .int 0), (0, 3, .int 0), (1, 14, .int 16)], [(false, .int 9996), (true, .retAddr 2)], [])
noncomputable def ax_t_182 : List ax_ct := [ax_c_182_0, ax_c_182_1]
noncomputable def ax_w_182 : ax_D := ([], [(212, 213)])
noncomputable def ax_p_182 : ax_po := (some (some (0, 1)), [], false, false, [])
noncomputable def ax_s_182 : ax_s9 := (93, ax_sumc ax_sp ax_c_182_0 1, ax_w_182, ax_p_182)
noncomputable def ax_l_182 : ax_Y := []
set_option maxRecDepth 1000000 in
theorem ax_k_182_0 : ax_cr9 ax_w_182 ax_l_182 ax_t_182 93 1 40000 ax_p_182 ax_c_182_0 = true := by decide +kernel
set_option maxRecDepth 1000000 in
theorem ax_k_182_1 : ax_cr9 ax_w_182 ax_l_182 ax_t_182 93 1 40000 ax_p_182 ax_c_182_1 = true := by decide +kernel
theorem ax_y_182 {X : Nat × (Nat → Int32)} : ax_Y1 X ax_sp ax_rf ax_s_182 := ax_meth9 (c := ax_c_182_0) (T := ax_t_182) ax_Yn ⟨ax_k_182_0, ⟨ax_k_182_1, trivial⟩⟩ List.mem_cons_self rfl
/-! $Settling.nearestEnd ((),) -/
noncomputable def ax_c_183_0 : ax_ct := (0, (1, [(0, 150)], [], [], []), [(14, .int 16, .retAddr 0)], [some (.ref 197), none, none, none], [(1, 14, .int 16)], [(false, .int 20000), (false, .int 0), (false, .int 20000), (false, .int 0)], [])
noncomputable def ax_c_183_1 : ax_ct := (2, (2, [(0, 150), (0, 12)], [], [], []), [(14, .int 16, .retAddr 1)], [some (.ref 197), some (.retAddr 0), none, none], [(0, 1, .int 0), (1, 14, .int 16)], [(false, .int 9998), (true, .retAddr 0), (false, .int 20000), (false, .int 0)], [])
noncomputable def ax_c_183_2 : ax_ct := (48, (3, [(0, 150), (0, 12), (0, 1)], [], [], []), [(14, .int 16, .retAddr 2)], [some (.ref 197), some (.retAddr 0), some (.retAddr 1), none], [(0, 1, .int 0), (0, 2, .int 0), (1, 14, .int 16)], [(false, .int 9952), (true, .retAddr 1), (false, .int 20000), (false, .int 0)], [])
noncomputable def ax_c_183_3 : ax_ct := (62, (4, [(0, 150), (0, 12), (0, 11), (0, 1)], [], [], [(0, 2, 0)]), [(14, .int 16, .retAddr 3)], [some (.ref 197), some (.retAddr 0), some (.retAddr 1), some (.retAddr 2)], [(0, 1, .int 0), (0, 2, .int 0), (0, 3, .int 0), (1, 14, .int 16)], [(false, .int 9952), (true, .retAddr 1), (false, .int 9938), (true, .retAddr 2)], [])
noncomputable def ax_c_183_4 : ax_ct := (115, (4, [(0, 150), (1, 12), (0, 11), (0, 1)], [], [], [(1, 2, 1)]), [(14, .int 16, .retAddr 3)], [some (.ref 197), some (.retAddr 0), some (.retAddr 1), some (.retAddr 2)], [(0, 1, .int 0), (0, 2, .int 0), (0, 3, .int 0), (1, 14, .int 16)], [(false, .int 9885), (true, .retAddr 2), (false, .int 20000), (false, .int 0)], [])
noncomputable def ax_c_183_5 : ax_ct := (115, (4, [(0, 150), (0, 12), ((-4), (-4)), (0, 1)], [], [], []), [(14, .int 16, .retAddr 3)], [some (.ref 197), some (.retAddr 0), some (.retAddr 1), some (.retAddr 2)], [(0, 1, .int 0), (0, 2, .int 0), (0, 3, .int 0), (1, 14, .int 16)], [(false, .int 9885), (true, .retAddr 2), (false, .int 20000), (false, .int 0)], [])
noncomputable def ax_t_183 : List ax_ct := [ax_c_183_0, ax_c_183_1, ax_c_183_2, ax_c_183_3, ax_c_183_4, ax_c_183_5]
noncomputable def ax_w_183 : ax_D := ([], [(212, 213)])
noncomputable def ax_p_183 : ax_po := (some (some ((-5), 11)), [], false, false, [])
noncomputable def ax_s_183 : ax_s9 := (92, ax_sumc ax_sp ax_c_183_0 2, ax_w_183, ax_p_183)
noncomputable def ax_l_183 : ax_Y := [ax_s_182]
set_option maxRecDepth 1000000 in
theorem ax_k_183_0 : ax_cr9 ax_w_183 ax_l_183 ax_t_183 92 2 40000 ax_p_183 ax_c_183_0 = true := by decide +kernel
set_option maxRecDepth 1000000 in
theorem ax_k_183_1 : ax_cr9 ax_w_183 ax_l_183 ax_t_183 92 2 40000 ax_p_183 ax_c_183_1 = true := by decide +kernel
set_option maxRecDepth 1000000 in
theorem ax_k_183_2 : ax_cr9 ax_w_183 ax_l_183 ax_t_183 92 2 40000 ax_p_183 ax_c_183_2 = true := by decide +kernel
set_option maxRecDepth 1000000 in
theorem ax_k_183_3 : ax_cr9 ax_w_183 ax_l_183 ax_t_183 92 2 40000 ax_p_183 ax_c_183_3 = true := by decide +kernel
set_option maxRecDepth 1000000 in
theorem ax_k_183_4 : ax_cr9 ax_w_183 ax_l_183 ax_t_183 92 2 40000 ax_p_183 ax_c_183_4 = true := by decide +kernel
set_option maxRecDepth 1000000 in
theorem ax_k_183_5 : ax_cr9 ax_w_183 ax_l_183 ax_t_183 92 2 40000 ax_p_183 ax_c_183_5 = true := by decide +kernel
theorem ax_y_183 {X : Nat × (Nat → Int32)} : ax_Y1 X ax_sp ax_rf ax_s_183 := ax_meth9 (c := ax_c_183_0) (T := ax_t_183) (ax_Yc ax_y_182 ax_Yn) ⟨ax_k_183_0, ⟨ax_k_183_1, ⟨ax_k_183_2, ⟨ax_k_183_3, ⟨ax_k_183_4, ⟨ax_k_183_5, trivial⟩⟩⟩⟩⟩⟩ List.mem_cons_self rfl
/-! $Settling.send ((),) -/
noncomputable def ax_c_184_0 : ax_ct := (0, (2, [(0, 150), (0, 11)], [], [], []), [(14, .int 16, .retAddr 1)], [some (.ref 197), some (.retAddr 0), none, none, none], [(0, 1, .int 0), (1, 14, .int 16)], [(false, .int 20000), (false, .int 0)], [])
noncomputable def ax_c_184_1 : ax_ct := (13, (5, [(0, 150), (0, 12), (0, 11), ((-2147483648), 2147483647), (0, 11)], [], [], []), [(14, .int 16, .retAddr 4)], [some (.ref 197), some (.retAddr 0), some (.retAddr 1), some (.retAddr 2), some (.retAddr 3)], [(0, 1, .int 0), (0, 2, .int 0), (0, 3, .int 0), (0, 4, .int 0), (1, 14, .int 16)], [(false, .int 9987), (true, .retAddr 3)], [])
noncomputable def ax_c_184_2 : ax_ct := (96, (5, [(0, 150), (0, 12), (0, 11), ((-2147483648), 2147483647), (0, 11)], [], [], []), [(14, .int 16, .retAddr 4)], [some (.ref 197), some (.retAddr 0), some (.retAddr 1), some (.retAddr 2), some (.retAddr 3)], [(0, 1, .int 0), (0, 2, .int 0), (0, 3, .int 0), (0, 4, .int 0), (1, 14, .int 16)], [(false, .int 9904), (true, .retAddr 3)], [])
noncomputable def ax_t_184 : List ax_ct := [ax_c_184_0, ax_c_184_1, ax_c_184_2]
noncomputable def ax_w_184 : ax_D := ([], [(199, 211)])
noncomputable def ax_p_184 : ax_po := (some (some ((-2147483648), 2147483647)), [], false, false, [])
noncomputable def ax_s_184 : ax_s9 := (95, ax_sumc ax_sp ax_c_184_0 1, ax_w_184, ax_p_184)
noncomputable def ax_l_184 : ax_Y := []
set_option maxRecDepth 1000000 in
theorem ax_k_184_0 : ax_cr9 ax_w_184 ax_l_184 ax_t_184 95 1 40000 ax_p_184 ax_c_184_0 = true := by decide +kernel
set_option maxRecDepth 1000000 in
theorem ax_k_184_1 : ax_cr9 ax_w_184 ax_l_184 ax_t_184 95 1 40000 ax_p_184 ax_c_184_1 = true := by decide +kernel
set_option maxRecDepth 1000000 in
theorem ax_k_184_2 : ax_cr9 ax_w_184 ax_l_184 ax_t_184 95 1 40000 ax_p_184 ax_c_184_2 = true := by decide +kernel
theorem ax_y_184 {X : Nat × (Nat → Int32)} : ax_Y1 X ax_sp ax_rf ax_s_184 := ax_meth9 (c := ax_c_184_0) (T := ax_t_184) ax_Yn ⟨ax_k_184_0, ⟨ax_k_184_1, ⟨ax_k_184_2, trivial⟩⟩⟩ List.mem_cons_self rfl
/-! $Settling.mostOff ((),) -/
noncomputable def ax_c_185_0 : ax_ct := (0, (1, [(0, 150)], [], [], []), [(14, .int 16, .retAddr 0)], [some (.ref 197), none, none, none], [(1, 14, .int 16)], [(false, .int 20000), (false, .int 0)], [])
noncomputable def ax_c_185_1 : ax_ct := (2, (2, [(0, 150), (0, 12)], [], [], []), [(14, .int 16, .retAddr 1)], [some (.ref 197), some (.retAddr 0), none, none], [(0, 1, .int 0), (1, 14, .int 16)], [(false, .int 9998), (true, .retAddr 0)], [])
noncomputable def ax_c_185_2 : ax_ct := (49, (3, [(0, 150), (0, 9000), ((-2147483648), 2147483647)], [], [], []), [(14, .int 16, .retAddr 2)], [some (.ref 197), some (.retAddr 0), some (.retAddr 1), none], [(0, 1, .int 0), (0, 2, .int 0), (1, 14, .int 16)], [(false, .int 9951), (true, .retAddr 1)], [])
noncomputable def ax_t_185 : List ax_ct := [ax_c_185_0, ax_c_185_1, ax_c_185_2]
noncomputable def ax_w_185 : ax_D := ([], [(199, 213)])
noncomputable def ax_p_185 : ax_po := (some (some ((-2147483648), 2147483647)), [], false, false, [])
noncomputable def ax_s_185 : ax_s9 := (91, ax_sumc ax_sp ax_c_185_0 3, ax_w_185, ax_p_185)
noncomputable def ax_l_185 : ax_Y := [ax_s_160, ax_s_163, ax_s_183, ax_s_184]
set_option maxRecDepth 1000000 in
theorem ax_k_185_0 : ax_cr9 ax_w_185 ax_l_185 ax_t_185 91 3 40000 ax_p_185 ax_c_185_0 = true := by decide +kernel
set_option maxRecDepth 1000000 in
theorem ax_k_185_1 : ax_cr9 ax_w_185 ax_l_185 ax_t_185 91 3 40000 ax_p_185 ax_c_185_1 = true := by decide +kernel
set_option maxRecDepth 1000000 in
theorem ax_k_185_2 : ax_cr9 ax_w_185 ax_l_185 ax_t_185 91 3 40000 ax_p_185 ax_c_185_2 = true := by decide +kernel
theorem ax_y_185 {X : Nat × (Nat → Int32)} : ax_Y1 X ax_sp ax_rf ax_s_185 := ax_meth9 (c := ax_c_185_0) (T := ax_t_185) (ax_Yc ax_y_160 (ax_Yc ax_y_163 (ax_Yc ax_y_183 (ax_Yc ax_y_184 ax_Yn)))) ⟨ax_k_185_0, ⟨ax_k_185_1, ⟨ax_k_185_2, trivial⟩⟩⟩ List.mem_cons_self rfl
/-! .most ('most', 0) -/
noncomputable def ax_c_186_0 : ax_ct := (0, (0, [], [], [], []), [], [some (.ref 0)], [], [], [])
noncomputable def ax_t_186 : List ax_ct := [ax_c_186_0]
noncomputable def ax_w_186 : ax_D := ([(15, 0), (15, 1), (15, 2), (15, 3), (15, 4), (15, 5), (15, 6), (15, 7), (15, 8), (15, 9), (15, 10)], [(178, 179), (182, 193), (199, 213)])
noncomputable def ax_p_186 : ax_po := (some (some ((-2147483648), 2147483647)), [], false, false, [])
noncomputable def ax_s_186 : ax_s9 := (126, ax_sumc ax_sp ax_c_186_0 41, ax_w_186, ax_p_186)
noncomputable def ax_l_186 : ax_Y := [ax_s_155, ax_s_185]
set_option maxRecDepth 1000000 in
theorem ax_k_186_0 : ax_cr9 ax_w_186 ax_l_186 ax_t_186 126 41 40000 ax_p_186 ax_c_186_0 = true := by decide +kernel
theorem ax_y_186 {X : Nat × (Nat → Int32)} : ax_Y1 X ax_sp ax_rf ax_s_186 := ax_meth9 (c := ax_c_186_0) (T := ax_t_186) (ax_Yc ax_y_155 (ax_Yc ax_y_185 ax_Yn)) ⟨ax_k_186_0, trivial⟩ List.mem_cons_self rfl
/-! Model.findWays ((),) -/
noncomputable def ax_c_187_0 : ax_ct := (0, (2, [(0, 150), (0, 12)], [], [], []), [(244, .int 7, .retAddr 1), (244, .int 1, .retAddr 0)], [some (.ref 244), none, none, none], [(1, 244, .int 1), (1, 244, .int 7)], [(false, .int 20000), (false, .int 0), (false, .int 20000), (false, .int 0), (false, .int 20000), (false, .int 0)], [])
noncomputable def ax_c_187_1 : ax_ct := (2, (3, [(0, 150), (0, 12), (0, 12)], [], [], [(0, 1, 0)]), [(244, .int 7, .retAddr 2), (244, .int 1, .retAddr 1)], [some (.ref 244), some (.retAddr 0), none, none], [(0, 1, .int 0), (1, 244, .int 1), (1, 244, .int 7)], [(false, .int 9998), (true, .retAddr 0), (false, .int 20000), (false, .int 0), (false, .int 20000), (false, .int 0)], [])
noncomputable def ax_c_187_2 : ax_ct := (47, (3, [(0, 150), (0, 12), (0, 12)], [], [], [(0, 1, 0)]), [(244, .int 7, .retAddr 2), (244, .int 1, .retAddr 1)], [some (.ref 244), some (.retAddr 0), none, none], [(0, 1, .int 0), (1, 244, .int 1), (1, 244, .int 7)], [(false, .int 9953), (true, .retAddr 0), (false, .int 20000), (false, .int 0), (false, .int 20000), (false, .int 0)], [])
noncomputable def ax_c_187_3 : ax_ct := (57, (4, [(0, 150), (1, 12), (0, 12), (0, 11)], [], [], [(1, 2, 0), (0, 2, 1)]), [(244, .int 7, .retAddr 3), (244, .int 1, .retAddr 2)], [some (.ref 244), some (.retAddr 0), some (.retAddr 1), none], [(0, 1, .int 0), (0, 2, .int 0), (1, 244, .int 1), (1, 244, .int 7)], [(false, .int 9953), (true, .retAddr 0), (false, .int 9943), (true, .retAddr 1), (false, .int 20000), (false, .int 0)], [])
noncomputable def ax_c_187_4 : ax_ct := (67, (5, [(0, 150), (1, 12), (0, 12), (0, 11), (0, 11)], [], [], [(2, 3, 0), (1, 3, 1), (0, 3, 1)]), [(244, .int 7, .retAddr 4), (244, .int 1, .retAddr 3)], [some (.ref 244), some (.retAddr 0), some (.retAddr 1), some (.retAddr 2)], [(0, 1, .int 0), (0, 2, .int 0), (0, 3, .int 0), (1, 244, .int 1), (1, 244, .int 7)], [(false, .int 9953), (true, .retAddr 0), (false, .int 9943), (true, .retAddr 1), (false, .int 9933), (true, .retAddr 2)], [])
noncomputable def ax_t_187 : List ax_ct := [ax_c_187_0, ax_c_187_1, ax_c_187_2, ax_c_187_3, ax_c_187_4]
noncomputable def ax_w_187 : ax_D := ([], [(272, 273)])
noncomputable def ax_p_187 : ax_po := (none, [], false, false, [])
noncomputable def ax_s_187 : ax_s9 := (214, ax_sumc ax_sp ax_c_187_0 1, ax_w_187, ax_p_187)
noncomputable def ax_l_187 : ax_Y := []
set_option maxRecDepth 1000000 in
theorem ax_k_187_0 : ax_cr9 ax_w_187 ax_l_187 ax_t_187 214 1 40000 ax_p_187 ax_c_187_0 = true := by decide +kernel
set_option maxRecDepth 1000000 in
theorem ax_k_187_1 : ax_cr9 ax_w_187 ax_l_187 ax_t_187 214 1 40000 ax_p_187 ax_c_187_1 = true := by decide +kernel
set_option maxRecDepth 1000000 in
theorem ax_k_187_2 : ax_cr9 ax_w_187 ax_l_187 ax_t_187 214 1 40000 ax_p_187 ax_c_187_2 = true := by decide +kernel
set_option maxRecDepth 1000000 in
theorem ax_k_187_3 : ax_cr9 ax_w_187 ax_l_187 ax_t_187 214 1 40000 ax_p_187 ax_c_187_3 = true := by decide +kernel
set_option maxRecDepth 1000000 in
theorem ax_k_187_4 : ax_cr9 ax_w_187 ax_l_187 ax_t_187 214 1 40000 ax_p_187 ax_c_187_4 = true := by decide +kernel
theorem ax_y_187 {X : Nat × (Nat → Int32)} : ax_Y1 X ax_sp ax_rf ax_s_187 := ax_meth9 (c := ax_c_187_0) (T := ax_t_187) ax_Yn ⟨ax_k_187_0, ⟨ax_k_187_1, ⟨ax_k_187_2, ⟨ax_k_187_3, ⟨ax_k_187_4, trivial⟩⟩⟩⟩⟩ List.mem_cons_self rfl
/-! Model.mostOf ((),) -/
noncomputable def ax_c_188_0 : ax_ct := (0, (0, [], [], [], []), [], [some (.ref 244), none, none, none, none, none], [], [], [])
noncomputable def ax_c_188_1 : ax_ct := (20, (3, [(0, 150), (0, 144), ((-2147483648), 2147483647)], [], [], []), [(244, .int 7, .retAddr 2)], [some (.ref 244), some (.retAddr 0), some (.retAddr 1), none, none, none], [(0, 1, .int 0), (0, 2, .int 0), (1, 244, .int 7)], [], [])
noncomputable def ax_c_188_2 : ax_ct := (42, (3, [(0, 150), (0, 12), ((-2147483648), 2147483647)], [], [], []), [(244, .int 7, .retAddr 2)], [some (.ref 244), some (.retAddr 0), some (.retAddr 1), none, none, none], [(0, 1, .int 0), (0, 2, .int 0), (1, 244, .int 7)], [], [])
noncomputable def ax_c_188_3 : ax_ct := (59, (5, [(0, 150), (1, 12), (0, 12), (0, 11), ((-2147483648), 2147483647)], [], [], [(2, 3, 0), (1, 3, 1)]), [(244, .int 7, .retAddr 4), (244, .int 1, .retAddr 3)], [some (.ref 244), some (.retAddr 0), some (.retAddr 1), some (.retAddr 2), none, none], [(0, 1, .int 0), (0, 2, .int 0), (0, 3, .int 0), (1, 244, .int 1), (1, 244, .int 7)], [], [])
noncomputable def ax_c_188_4 : ax_ct := (113, (4, [(0, 150), (0, 12), ((-1), 11), ((-2147483648), 2147483647)], [], [], [(1, 2, 0)]), [(244, .int 7, .retAddr 3), (244, .int 1, .retAddr 2)], [some (.ref 244), some (.retAddr 0), some (.retAddr 1), none, none, none], [(0, 1, .int 0), (0, 2, .int 0), (1, 244, .int 1), (1, 244, .int 7)], [], [])
noncomputable def ax_c_188_5 : ax_ct := (125, (5, [(0, 150), (0, 12), (0, 12), ((-1), 11), ((-2147483648), 2147483647)], [], [], [(2, 3, 0), (1, 3, 1), (1, 2, 1)]), [(244, .int 7, .retAddr 4), (244, .int 1, .retAddr 3)], [some (.ref 244), some (.retAddr 0), some (.retAddr 1), some (.retAddr 2), none, none], [(0, 1, .int 0), (0, 2, .int 0), (0, 3, .int 0), (1, 244, .int 1), (1, 244, .int 7)], [], [])
noncomputable def ax_c_188_6 : ax_ct := (199, (6, [(0, 150), (0, 12), (0, 11), ((-2147483648), 2147483647), (0, 11), ((-2147483648), 2147483647)], [], [], [(1, 4, 1)]), [(244, .int 7, .retAddr 5), (244, .int 1, .retAddr 4)], [some (.ref 244), some (.retAddr 0), some (.retAddr 1), some (.retAddr 2), some (.retAddr 3), none], [(0, 1, .int 0), (0, 2, .int 0), (0, 3, .int 0), (0, 4, .int 0), (1, 244, .int 1), (1, 244, .int 7)], [], [])
noncomputable def ax_c_188_7 : ax_ct := (303, (6, [(0, 150), (0, 12), (0, 11), ((-2147483648), 2147483647), (0, 11), ((-2147483648), 2147483647)], [], [], [(1, 4, 1)]), [(244, .int 7, .retAddr 5), (244, .int 1, .retAddr 4)], [some (.ref 244), some (.retAddr 0), some (.retAddr 1), some (.retAddr 2), some (.retAddr 3), none], [(0, 1, .int 0), (0, 2, .int 0), (0, 3, .int 0), (0, 4, .int 0), (1, 244, .int 1), (1, 244, .int 7)], [], [])
noncomputable def ax_t_188 : List ax_ct := [ax_c_188_0, ax_c_188_1, ax_c_188_2, ax_c_188_3, ax_c_188_4, ax_c_188_5, ax_c_188_6, ax_c_188_7]
noncomputable def ax_w_188 : ax_D := ([(244, 19), (244, 20), (244, 21), (244, 30)], [(259, 268), (270, 273)])
noncomputable def ax_p_188 : ax_po := (some (some ((-2147483648), 2147483647)), [], false, false, [])
noncomputable def ax_s_188 : ax_s9 := (216, ax_sumc ax_sp ax_c_188_0 8, ax_w_188, ax_p_188)
/-! Model.most ('most', 0) -/
noncomputable def ax_c_189_0 : ax_ct := (0, (0, [], [], [], []), [], [some (.ref 244)], [], [], [])
noncomputable def ax_t_189 : List ax_ct := [ax_c_189_0]
noncomputable def ax_w_189 : ax_D := ([(244, 19), (244, 20), (244, 21), (244, 30)], [(259, 268), (270, 273)])
noncomputable def ax_p_189 : ax_po := (some (some ((-2147483648), 2147483647)), [], false, false, [])
noncomputable def ax_s_189 : ax_s9 := (217, ax_sumc ax_sp ax_c_189_0 9, ax_w_189, ax_p_189)
noncomputable def ax_l_189 : ax_Y := [ax_s_188]
set_option maxRecDepth 1000000 in
theorem ax_k_189_0 : ax_cr9 ax_w_189 ax_l_189 ax_t_189 217 9 40000 ax_p_189 ax_c_189_0 = true := by decide +kernel
theorem ax_y_189 {X : Nat × (Nat → Int32)} (hm : ax_Y1 X ax_sp ax_rf ax_s_188) : ax_Y1 X ax_sp ax_rf ax_s_189 := ax_meth9 (c := ax_c_189_0) (T := ax_t_189) (ax_Yc hm ax_Yn) ⟨ax_k_189_0, trivial⟩ List.mem_cons_self rfl
/-! .refusalOfPrices (('lo',),) -/
noncomputable def ax_c_190_0 : ax_ct := (0, (1, [((-2147483648), (-1))], [], [], []), [], [some (.ref 0), some (.retAddr 0), none, none], [(0, 1, .int 0)], [], [])
noncomputable def ax_t_190 : List ax_ct := [ax_c_190_0]
noncomputable def ax_w_190 : ax_D := ([], [])
noncomputable def ax_p_190 : ax_po := (some (some ((-1), (-1))), [], false, false, [])
noncomputable def ax_s_190 : ax_s9 := (152, ax_sumc ax_sp ax_c_190_0 3, ax_w_190, ax_p_190)
noncomputable def ax_l_190 : ax_Y := []
set_option maxRecDepth 1000000 in
theorem ax_k_190_0 : ax_cr9 ax_w_190 ax_l_190 ax_t_190 152 3 40000 ax_p_190 ax_c_190_0 = true := by decide +kernel
theorem ax_y_190 {X : Nat × (Nat → Int32)} : ax_Y1 X ax_sp ax_rf ax_s_190 := ax_meth9 (c := ax_c_190_0) (T := ax_t_190) ax_Yn ⟨ax_k_190_0, trivial⟩ List.mem_cons_self rfl
/-! .refusalOfPrices (('hi',),) -/
noncomputable def ax_c_191_0 : ax_ct := (0, (1, [(8, 2147483647)], [], [], []), [], [some (.ref 0), some (.retAddr 0), none, none], [(0, 1, .int 0)], [], [])
noncomputable def ax_t_191 : List ax_ct := [ax_c_191_0]
noncomputable def ax_w_191 : ax_D := ([], [])
noncomputable def ax_p_191 : ax_po := (some (some ((-1), (-1))), [], false, false, [])
noncomputable def ax_s_191 : ax_s9 := (152, ax_sumc ax_sp ax_c_191_0 3, ax_w_191, ax_p_191)
noncomputable def ax_l_191 : ax_Y := []
set_option maxRecDepth 1000000 in
theorem ax_k_191_0 : ax_cr9 ax_w_191 ax_l_191 ax_t_191 152 3 40000 ax_p_191 ax_c_191_0 = true := by decide +kernel
theorem ax_y_191 {X : Nat × (Nat → Int32)} : ax_Y1 X ax_sp ax_rf ax_s_191 := ax_meth9 (c := ax_c_191_0) (T := ax_t_191) ax_Yn ⟨ax_k_191_0, trivial⟩ List.mem_cons_self rfl
/-! $Settling.boundBy ((),) -/
noncomputable def ax_c_192_0 : ax_ct := (0, (4, [(0, 150), (0, 12), (0, 12), (236, 243)], [], [], [(2, 1, 0), (1, 2, 0)]), [(14, .int 16, .retAddr 3), (1, .int 4, .retAddr 2)], [some (.ref 197), some (.float 0), some (.retAddr 1), none, none, none], [(0, 1, .int 0), (0, 2, .int 0), (1, 1, .int 4), (1, 14, .int 16)], [(false, .int 20000), (false, .int 0), (false, .int 20000), (false, .int 0)], [])
noncomputable def ax_c_192_1 : ax_ct := (5, (6, [(0, 150), (0, 12), (0, 12), ((-2147483648), 2147483647), (0, 12), (236, 243)], [], [], [(4, 1, 0), (3, 1, 0), (1, 4, 0)]), [(14, .int 16, .retAddr 5), (1, .int 4, .retAddr 4)], [some (.ref 197), some (.float 0), some (.retAddr 1), some (.retAddr 2), some (.retAddr 3), none], [(0, 1, .int 0), (0, 2, .int 0), (0, 3, .int 0), (0, 4, .int 0), (1, 1, .int 4), (1, 14, .int 16)], [(false, .int 9995), (true, .retAddr 3), (false, .int 20000), (false, .int 0)], [])
noncomputable def ax_c_192_2 : ax_ct := (14, (7, [(0, 150), (0, 12), (0, 12), (0, 11), ((-2147483648), 2147483647), (1, 12), (236, 243)], [], [], [(5, 1, 0), (4, 1, 0), (3, 5, 0), (3, 1, 1), (1, 5, 0)]), [(14, .int 16, .retAddr 6), (1, .int 4, .retAddr 5)], [some (.ref 197), some (.float 0), some (.retAddr 1), some (.retAddr 2), some (.retAddr 3), some (.retAddr 4)], [(0, 1, .int 0), (0, 2, .int 0), (0, 3, .int 0), (0, 4, .int 0), (0, 5, .int 0), (1, 1, .int 4), (1, 14, .int 16)], [(false, .int 9995), (true, .retAddr 3), (false, .int 9986), (true, .retAddr 4)], [])
noncomputable def ax_t_192 : List ax_ct := [ax_c_192_0, ax_c_192_1, ax_c_192_2]
noncomputable def ax_w_192 : ax_D := ([], [])
noncomputable def ax_p_192 : ax_po := (some (some ((-2147483648), 2147483647)), [], false, false, [])
noncomputable def ax_s_192 : ax_s9 := (90, ax_sumc ax_sp ax_c_192_0 1, ax_w_192, ax_p_192)
noncomputable def ax_l_192 : ax_Y := []
set_option maxRecDepth 1000000 in
theorem ax_k_192_0 : ax_cr9 ax_w_192 ax_l_192 ax_t_192 90 1 40000 ax_p_192 ax_c_192_0 = true := by decide +kernel
set_option maxRecDepth 1000000 in
theorem ax_k_192_1 : ax_cr9 ax_w_192 ax_l_192 ax_t_192 90 1 40000 ax_p_192 ax_c_192_1 = true := by decide +kernel
set_option maxRecDepth 1000000 in
theorem ax_k_192_2 : ax_cr9 ax_w_192 ax_l_192 ax_t_192 90 1 40000 ax_p_192 ax_c_192_2 = true := by decide +kernel
theorem ax_y_192 {X : Nat × (Nat → Int32)} : ax_Y1 X ax_sp ax_rf ax_s_192 := ax_meth9 (c := ax_c_192_0) (T := ax_t_192) ax_Yn ⟨ax_k_192_0, ⟨ax_k_192_1, ⟨ax_k_192_2, trivial⟩⟩⟩ List.mem_cons_self rfl
/-! .refusalOfPrices (('in',),) -/
noncomputable def ax_c_193_0 : ax_ct := (0, (1, [(0, 7)], [], [], []), [], [some (.ref 0), some (.retAddr 0), none, none], [(0, 1, .int 0)], [(false, .int 20000), (false, .int 0)], [])
noncomputable def ax_c_193_1 : ax_ct := (40, (4, [(0, 12), (0, 12), (0, 0), (0, 7)], [], [], [(2, 3, 0)]), [(1, .int 4, .retAddr 3)], [some (.ref 0), some (.retAddr 0), some (.retAddr 1), some (.retAddr 2)], [(0, 1, .int 0), (0, 2, .int 0), (0, 3, .int 0), (1, 1, .int 4)], [(false, .int 9960), (true, .retAddr 2)], [])
noncomputable def ax_t_193 : List ax_ct := [ax_c_193_0, ax_c_193_1]
noncomputable def ax_w_193 : ax_D := ([], [])
noncomputable def ax_p_193 : ax_po := (some (some ((-15), 0)), [], false, false, [])
noncomputable def ax_s_193 : ax_s9 := (152, ax_sumc ax_sp ax_c_193_0 3, ax_w_193, ax_p_193)
noncomputable def ax_l_193 : ax_Y := []
set_option maxRecDepth 1000000 in
theorem ax_k_193_0 : ax_cr9 ax_w_193 ax_l_193 ax_t_193 152 3 40000 ax_p_193 ax_c_193_0 = true := by decide +kernel
set_option maxRecDepth 1000000 in
theorem ax_k_193_1 : ax_cr9 ax_w_193 ax_l_193 ax_t_193 152 3 40000 ax_p_193 ax_c_193_1 = true := by decide +kernel
theorem ax_y_193 {X : Nat × (Nat → Int32)} : ax_Y1 X ax_sp ax_rf ax_s_193 := ax_meth9 (c := ax_c_193_0) (T := ax_t_193) ax_Yn ⟨ax_k_193_0, ⟨ax_k_193_1, trivial⟩⟩ List.mem_cons_self rfl
/-! .bound ('bound', 0) -/
noncomputable def ax_c_194_0 : ax_ct := (0, (1, [((-2147483648), 2147483647)], [], [], []), [], [some (.ref 0), some (.retAddr 0), none], [(0, 1, .int 0)], [], [])
noncomputable def ax_t_194 : List ax_ct := [ax_c_194_0]
noncomputable def ax_w_194 : ax_D := ([(15, 0), (15, 1), (15, 2), (15, 3), (15, 4), (15, 5), (15, 6), (15, 7), (15, 8), (15, 9), (15, 10)], [(178, 179), (182, 193)])
noncomputable def ax_p_194 : ax_po := (some (some ((-2147483648), 2147483647)), [], false, false, [])
noncomputable def ax_s_194 : ax_s9 := (127, ax_sumc ax_sp ax_c_194_0 41, ax_w_194, ax_p_194)
noncomputable def ax_l_194 : ax_Y := [ax_s_191, ax_s_193, ax_s_190, ax_s_155, ax_s_192]
set_option maxRecDepth 1000000 in
theorem ax_k_194_0 : ax_cr9 ax_w_194 ax_l_194 ax_t_194 127 41 40000 ax_p_194 ax_c_194_0 = true := by decide +kernel
theorem ax_y_194 {X : Nat × (Nat → Int32)} : ax_Y1 X ax_sp ax_rf ax_s_194 := ax_meth9 (c := ax_c_194_0) (T := ax_t_194) (ax_Yc ax_y_191 (ax_Yc ax_y_193 (ax_Yc ax_y_190 (ax_Yc ax_y_155 (ax_Yc ax_y_192 ax_Yn))))) ⟨ax_k_194_0, trivial⟩ List.mem_cons_self rfl
/-! Model.lacksPrices (('in',),) -/
noncomputable def ax_c_195_0 : ax_ct := (0, (1, [(0, 7)], [], [], []), [], [some (.ref 244), some (.retAddr 0), none], [(0, 1, .int 0)], [(false, .int 20000), (false, .int 0)], [])
noncomputable def ax_c_195_1 : ax_ct := (34, (3, [(0, 12), (0, 12), (0, 7)], [], [], [(1, 2, 0)]), [(244, .int 1, .retAddr 2)], [some (.ref 244), some (.retAddr 0), some (.retAddr 1)], [(0, 1, .int 0), (0, 2, .int 0), (1, 244, .int 1)], [(false, .int 9966), (true, .retAddr 1)], [])
noncomputable def ax_t_195 : List ax_ct := [ax_c_195_0, ax_c_195_1]
noncomputable def ax_w_195 : ax_D := ([], [])
noncomputable def ax_p_195 : ax_po := (some (some ((-15), 0)), [], false, false, [])
noncomputable def ax_s_195 : ax_s9 := (218, ax_sumc ax_sp ax_c_195_0 2, ax_w_195, ax_p_195)
noncomputable def ax_l_195 : ax_Y := []
set_option maxRecDepth 1000000 in
theorem ax_k_195_0 : ax_cr9 ax_w_195 ax_l_195 ax_t_195 218 2 40000 ax_p_195 ax_c_195_0 = true := by decide +kernel
set_option maxRecDepth 1000000 in
theorem ax_k_195_1 : ax_cr9 ax_w_195 ax_l_195 ax_t_195 218 2 40000 ax_p_195 ax_c_195_1 = true := by decide +kernel
theorem ax_y_195 {X : Nat × (Nat → Int32)} : ax_Y1 X ax_sp ax_rf ax_s_195 := ax_meth9 (c := ax_c_195_0) (T := ax_t_195) ax_Yn ⟨ax_k_195_0, ⟨ax_k_195_1, trivial⟩⟩ List.mem_cons_self rfl
/-! Model.boundOf ((),) -/
noncomputable def ax_c_196_0 : ax_ct := (0, (1, [(0, 7)], [], [], []), [], [some (.ref 244), some (.retAddr 0), none, none, none, none], [(0, 1, .int 0)], [(false, .int 20000), (false, .int 0), (false, .int 20000), (false, .int 0)], [])
noncomputable def ax_c_196_1 : ax_ct := (17, (4, [(0, 150), (0, 12), ((-2147483648), 2147483647), (0, 7)], [], [], []), [(244, .int 7, .retAddr 3)], [some (.ref 244), some (.retAddr 0), some (.retAddr 1), some (.retAddr 2), none, none], [(0, 1, .int 0), (0, 2, .int 0), (0, 3, .int 0), (1, 244, .int 7)], [(false, .int 9983), (true, .retAddr 2), (false, .int 20000), (false, .int 0)], [])
noncomputable def ax_c_196_2 : ax_ct := (28, (6, [(0, 150), (1, 12), (0, 12), (0, 11), ((-2147483648), 2147483647), (0, 7)], [], [], [(3, 4, 0), (2, 4, 1)]), [(244, .int 7, .retAddr 5), (244, .int 1, .retAddr 4)], [some (.ref 244), some (.retAddr 0), some (.retAddr 1), some (.retAddr 2), some (.retAddr 3), none], [(0, 1, .int 0), (0, 2, .int 0), (0, 3, .int 0), (0, 4, .int 0), (1, 244, .int 1), (1, 244, .int 7)], [(false, .int 9983), (true, .retAddr 2), (false, .int 9972), (true, .retAddr 3)], [])
noncomputable def ax_t_196 : List ax_ct := [ax_c_196_0, ax_c_196_1, ax_c_196_2]
noncomputable def ax_w_196 : ax_D := ([(244, 19), (244, 20), (244, 21), (244, 30)], [(259, 268)])
noncomputable def ax_p_196 : ax_po := (some (some ((-2147483648), 2147483647)), [], false, false, [])
noncomputable def ax_s_196 : ax_s9 := (219, ax_sumc ax_sp ax_c_196_0 8, ax_w_196, ax_p_196)
noncomputable def ax_l_196 : ax_Y := [ax_s_158]
set_option maxRecDepth 1000000 in
theorem ax_k_196_0 : ax_cr9 ax_w_196 ax_l_196 ax_t_196 219 8 40000 ax_p_196 ax_c_196_0 = true := by decide +kernel
set_option maxRecDepth 1000000 in
theorem ax_k_196_1 : ax_cr9 ax_w_196 ax_l_196 ax_t_196 219 8 40000 ax_p_196 ax_c_196_1 = true := by decide +kernel
set_option maxRecDepth 1000000 in
theorem ax_k_196_2 : ax_cr9 ax_w_196 ax_l_196 ax_t_196 219 8 40000 ax_p_196 ax_c_196_2 = true := by decide +kernel
theorem ax_y_196 {X : Nat × (Nat → Int32)} : ax_Y1 X ax_sp ax_rf ax_s_196 := ax_meth9 (c := ax_c_196_0) (T := ax_t_196) (ax_Yc ax_y_158 ax_Yn) ⟨ax_k_196_0, ⟨ax_k_196_1, ⟨ax_k_196_2, trivial⟩⟩⟩ List.mem_cons_self rfl
/-! Model.lacksPrices (('hi',),) -/
noncomputable def ax_c_197_0 : ax_ct := (0, (1, [(8, 2147483647)], [], [], []), [], [some (.ref 244), some (.retAddr 0), none], [(0, 1, .int 0)], [], [])
noncomputable def ax_t_197 : List ax_ct := [ax_c_197_0]
noncomputable def ax_w_197 : ax_D := ([], [])
noncomputable def ax_p_197 : ax_po := (some (some ((-1), (-1))), [], false, false, [])
noncomputable def ax_s_197 : ax_s9 := (218, ax_sumc ax_sp ax_c_197_0 2, ax_w_197, ax_p_197)
noncomputable def ax_l_197 : ax_Y := []
set_option maxRecDepth 1000000 in
theorem ax_k_197_0 : ax_cr9 ax_w_197 ax_l_197 ax_t_197 218 2 40000 ax_p_197 ax_c_197_0 = true := by decide +kernel
theorem ax_y_197 {X : Nat × (Nat → Int32)} : ax_Y1 X ax_sp ax_rf ax_s_197 := ax_meth9 (c := ax_c_197_0) (T := ax_t_197) ax_Yn ⟨ax_k_197_0, trivial⟩ List.mem_cons_self rfl
/-! Model.lacksPrices (('lo',),) -/
noncomputable def ax_c_198_0 : ax_ct := (0, (1, [((-2147483648), (-1))], [], [], []), [], [some (.ref 244), some (.retAddr 0), none], [(0, 1, .int 0)], [], [])
noncomputable def ax_t_198 : List ax_ct := [ax_c_198_0]
noncomputable def ax_w_198 : ax_D := ([], [])
noncomputable def ax_p_198 : ax_po := (some (some ((-1), (-1))), [], false, false, [])
noncomputable def ax_s_198 : ax_s9 := (218, ax_sumc ax_sp ax_c_198_0 2, ax_w_198, ax_p_198)
noncomputable def ax_l_198 : ax_Y := []
set_option maxRecDepth 1000000 in
theorem ax_k_198_0 : ax_cr9 ax_w_198 ax_l_198 ax_t_198 218 2 40000 ax_p_198 ax_c_198_0 = true := by decide +kernel
theorem ax_y_198 {X : Nat × (Nat → Int32)} : ax_Y1 X ax_sp ax_rf ax_s_198 := ax_meth9 (c := ax_c_198_0) (T := ax_t_198) ax_Yn ⟨ax_k_198_0, trivial⟩ List.mem_cons_self rfl
/-! Model.bound ('bound', 0) -/
noncomputable def ax_c_199_0 : ax_ct := (0, (1, [((-2147483648), 2147483647)], [], [], []), [], [some (.ref 244), some (.retAddr 0)], [(0, 1, .int 0)], [], [])
noncomputable def ax_t_199 : List ax_ct := [ax_c_199_0]
noncomputable def ax_w_199 : ax_D := ([(244, 19), (244, 20), (244, 21), (244, 30)], [(259, 268)])
noncomputable def ax_p_199 : ax_po := (some (some ((-2147483648), 2147483647)), [], false, false, [])
noncomputable def ax_s_199 : ax_s9 := (220, ax_sumc ax_sp ax_c_199_0 9, ax_w_199, ax_p_199)
noncomputable def ax_l_199 : ax_Y := [ax_s_197, ax_s_195, ax_s_198, ax_s_196]
set_option maxRecDepth 1000000 in
theorem ax_k_199_0 : ax_cr9 ax_w_199 ax_l_199 ax_t_199 220 9 40000 ax_p_199 ax_c_199_0 = true := by decide +kernel
theorem ax_y_199 {X : Nat × (Nat → Int32)} : ax_Y1 X ax_sp ax_rf ax_s_199 := ax_meth9 (c := ax_c_199_0) (T := ax_t_199) (ax_Yc ax_y_197 (ax_Yc ax_y_195 (ax_Yc ax_y_198 (ax_Yc ax_y_196 ax_Yn)))) ⟨ax_k_199_0, trivial⟩ List.mem_cons_self rfl
