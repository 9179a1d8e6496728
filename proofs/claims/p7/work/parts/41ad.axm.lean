/-! Model.fault ('fault', 0) -/
noncomputable def ax_c_59_0 : ax_ct := (0, (1, [((-2147483648), 2147483647)], [], [], []), [], [some (.ref 244), some (.retAddr 0)], [(0, 1, .int 0)], [], [])
noncomputable def ax_t_59 : List ax_ct := [ax_c_59_0]
noncomputable def ax_w_59 : ax_D := ([(244, 19), (244, 20), (244, 21), (244, 30)], [(257, 258), (260, 267)])
noncomputable def ax_p_59 : ax_po := (some (some ((-15), 80)), [], false, false, [])
noncomputable def ax_s_59 : ax_s9 := (183, ax_sumc ax_sp ax_c_59_0 4, ax_w_59, ax_p_59)
noncomputable def ax_l_59 : ax_Y := [ax_s_58, ax_s_55]
set_option maxRecDepth 1000000 in
theorem ax_k_59_0 : ax_cr9 ax_w_59 ax_l_59 ax_t_59 183 4 40000 ax_p_59 ax_c_59_0 = true := by decide +kernel
theorem ax_y_59 {X : Nat × (Nat → Int32)} : ax_Y1 X ax_sp ax_rf ax_s_59 := ax_meth9 (c := ax_c_59_0) (T := ax_t_59) (ax_Yc ax_y_58 (ax_Yc ax_y_55 ax_Yn)) ⟨ax_k_59_0, trivial⟩ List.mem_cons_self rfl
/-! $Book.tell ((0, None),) -/
noncomputable def ax_c_60_0 : ax_ct := (0, (6, [(0, 80), (0, 149), ((-4), (-4)), ((-4), (-4)), ((-4), (-4)), (0, 520)], [], [], []), [(174, .retAddr 4, .retAddr 5), (14, .int 16, .retAddr 4)], [some (.ref 14), some (.int 0), some (.retAddr 0), some (.retAddr 1), some (.retAddr 2), some (.retAddr 3), none], [(0, 2, .int 0), (0, 3, .int 0), (0, 4, .int 0), (0, 5, .int 0), (1, 14, .int 16), (1, 174, .retAddr 4)], [(false, .int 20000), (false, .int 0)], [(14, .int 16, .retAddr 4)])
noncomputable def ax_c_60_1 : ax_ct := (58, (11, [(0, 80), ((-4), (-4)), ((-4), (-4)), (0, 0), (0, 149), (0, 149), ((-4), (-4)), ((-4), (-4)), ((-4), (-4)), (0, 520), (0, 0)], [], [], [(5, 6, 0)]), [(174, .retAddr 6, .retAddr 10), (20, .retAddr 6, .retAddr 9), (19, .retAddr 6, .retAddr 8), (17, .retAddr 6, .retAddr 7), (14, .int 16, .retAddr 6)], [some (.ref 14), some (.retAddr 0), some (.retAddr 1), some (.retAddr 2), some (.retAddr 3), some (.retAddr 4), some (.retAddr 5)], [(0, 1, .int 0), (0, 2, .int 0), (0, 3, .int 0), (0, 4, .int 0), (0, 5, .int 0), (0, 6, .int 0), (1, 14, .int 16), (1, 17, .retAddr 6), (1, 19, .retAddr 6), (1, 20, .retAddr 6), (1, 174, .retAddr 6)], [(false, .int 9942), (false, .retAddr 5)], [(14, .int 16, .retAddr 6)])
noncomputable def ax_t_60 : List ax_ct := [ax_c_60_0, ax_c_60_1]
noncomputable def ax_w_60 : ax_D := ([(14, 16)], [(17, 21), (175, 175)])
noncomputable def ax_p_60 : ax_po := (some (some (0, 149)), [(14, 16, 1)], false, false, [])
noncomputable def ax_s_60 : ax_s9 := (20, ax_sumc ax_sp ax_c_60_0 1, ax_w_60, ax_p_60)
noncomputable def ax_l_60 : ax_Y := []
set_option maxRecDepth 1000000 in
theorem ax_k_60_0 : ax_cr9 ax_w_60 ax_l_60 ax_t_60 20 1 40000 ax_p_60 ax_c_60_0 = true := by decide +kernel
set_option maxRecDepth 1000000 in
theorem ax_k_60_1 : ax_cr9 ax_w_60 ax_l_60 ax_t_60 20 1 40000 ax_p_60 ax_c_60_1 = true := by decide +kernel
theorem ax_y_60 {X : Nat × (Nat → Int32)} : ax_Y1 X ax_sp ax_rf ax_s_60 := ax_meth9 (c := ax_c_60_0) (T := ax_t_60) ax_Yn ⟨ax_k_60_0, ⟨ax_k_60_1, trivial⟩⟩ List.mem_cons_self rfl
/-! .custom ('custom', 0) -/
noncomputable def ax_c_61_0 : ax_ct := (0, (3, [(0, 150), (0, 150), ((-2147483648), 2147483647)], [], [], [(1, 2, 0)]), [(14, .int 16, .retAddr 2), (14, .int 12, .retAddr 1)], [some (.ref 0), some (.retAddr 0), none], [(0, 1, .int 0), (1, 14, .int 12), (1, 14, .int 16)], [], [])
noncomputable def ax_t_61 : List ax_ct := [ax_c_61_0]
noncomputable def ax_w_61 : ax_D := ([(14, 12), (14, 16), (15, 0), (15, 1), (15, 2), (15, 3)], [(17, 21), (24, 176)])
noncomputable def ax_p_61 : ax_po := (some (some ((-1000), 149)), [], true, false, [])
noncomputable def ax_s_61 : ax_s9 := (112, ax_sumc ax_sp ax_c_61_0 39, ax_w_61, ax_p_61)
noncomputable def ax_l_61 : ax_Y := [ax_s_60, ax_s_53]
set_option maxRecDepth 1000000 in
theorem ax_k_61_0 : ax_cr9 ax_w_61 ax_l_61 ax_t_61 112 39 40000 ax_p_61 ax_c_61_0 = true := by decide +kernel
theorem ax_y_61 {X : Nat × (Nat → Int32)} : ax_Y1 X ax_sp ax_rf ax_s_61 := ax_meth9 (c := ax_c_61_0) (T := ax_t_61) (ax_Yc ax_y_60 (ax_Yc ax_y_53 ax_Yn)) ⟨ax_k_61_0, trivial⟩ List.mem_cons_self rfl
/-! Model.custom ('custom', 0) -/
noncomputable def ax_c_62_0 : ax_ct := (0, (1, [((-2147483648), 2147483647)], [], [], []), [], [some (.ref 244), some (.retAddr 0), none], [(0, 1, .int 0)], [(false, .int 20000), (false, .int 0)], [])
noncomputable def ax_c_62_1 : ax_ct := (82, (3, [(0, 149), (0, 80), (0, 7)], [], [], []), [(244, .int 7, .retAddr 2)], [some (.ref 244), some (.retAddr 0), some (.retAddr 1)], [(0, 1, .int 0), (0, 2, .int 0), (1, 244, .int 7)], [(false, .int 9918), (true, .retAddr 1)], [])
noncomputable def ax_t_62 : List ax_ct := [ax_c_62_0, ax_c_62_1]
noncomputable def ax_w_62 : ax_D := ([(244, 7), (244, 19), (244, 20), (244, 21), (244, 30)], [(249, 254), (257, 258), (260, 267)])
noncomputable def ax_p_62 : ax_po := (some (some ((-1000), 149)), [], false, false, [])
noncomputable def ax_s_62 : ax_s9 := (184, ax_sumc ax_sp ax_c_62_0 4, ax_w_62, ax_p_62)
noncomputable def ax_l_62 : ax_Y := [ax_s_58, ax_s_55]
set_option maxRecDepth 1000000 in
theorem ax_k_62_0 : ax_cr9 ax_w_62 ax_l_62 ax_t_62 184 4 40000 ax_p_62 ax_c_62_0 = true := by decide +kernel
set_option maxRecDepth 1000000 in
theorem ax_k_62_1 : ax_cr9 ax_w_62 ax_l_62 ax_t_62 184 4 40000 ax_p_62 ax_c_62_1 = true := by decide +kernel
theorem ax_y_62 {X : Nat × (Nat → Int32)} : ax_Y1 X ax_sp ax_rf ax_s_62 := ax_meth9 (c := ax_c_62_0) (T := ax_t_62) (ax_Yc ax_y_58 (ax_Yc ax_y_55 ax_Yn)) ⟨ax_k_62_0, ⟨ax_k_62_1, trivial⟩⟩ List.mem_cons_self rfl
/-! $Book.tell ((1, None),) -/
noncomputable def ax_c_63_0 : ax_ct := (0, (7, [(0, 80), (0, 149), (1, 12), (0, 20), (0, 11), (0, 11), (0, 520)], [], [], [(1, 4, 1)]), [(174, .retAddr 5, .retAddr 6), (14, .int 16, .retAddr 5), (1, .int 4, .retAddr 4)], [some (.ref 14), some (.int 1), some (.retAddr 0), some (.retAddr 1), some (.retAddr 2), some (.retAddr 3), none], [(0, 2, .int 0), (0, 3, .int 0), (0, 4, .int 0), (0, 5, .int 0), (1, 1, .int 4), (1, 14, .int 16), (1, 174, .retAddr 5)], [(false, .int 20000), (false, .int 0)], [(14, .int 16, .retAddr 5)])
noncomputable def ax_c_63_1 : ax_ct := (58, (12, [(0, 80), (0, 11), (0, 11), (1, 1), (0, 149), (1, 12), (0, 149), (0, 20), (0, 11), (0, 11), (0, 520), (1, 1)], [], [], [(10, 3, 0), (9, 6, 1), (9, 2, 0), (5, 7, 0), (3, 10, 0), (2, 9, 0), (2, 6, 1)]), [(174, .retAddr 7, .retAddr 11), (20, .retAddr 7, .retAddr 10), (19, .retAddr 7, .retAddr 9), (17, .retAddr 7, .retAddr 8), (14, .int 16, .retAddr 7), (1, .int 4, .retAddr 6)], [some (.ref 14), some (.retAddr 0), some (.retAddr 1), some (.retAddr 2), some (.retAddr 3), some (.retAddr 4), some (.retAddr 5)], [(0, 1, .int 0), (0, 2, .int 0), (0, 3, .int 0), (0, 4, .int 0), (0, 5, .int 0), (0, 6, .int 0), (1, 1, .int 4), (1, 14, .int 16), (1, 17, .retAddr 7), (1, 19, .retAddr 7), (1, 20, .retAddr 7), (1, 174, .retAddr 7)], [(false, .int 9942), (false, .retAddr 5)], [(14, .int 16, .retAddr 7)])
noncomputable def ax_t_63 : List ax_ct := [ax_c_63_0, ax_c_63_1]
noncomputable def ax_w_63 : ax_D := ([(14, 16)], [(17, 21), (175, 175)])
noncomputable def ax_p_63 : ax_po := (some (some (0, 149)), [(14, 16, 1)], false, false, [])
noncomputable def ax_s_63 : ax_s9 := (20, ax_sumc ax_sp ax_c_63_0 1, ax_w_63, ax_p_63)
noncomputable def ax_l_63 : ax_Y := []
set_option maxRecDepth 1000000 in
theorem ax_k_63_0 : ax_cr9 ax_w_63 ax_l_63 ax_t_63 20 1 40000 ax_p_63 ax_c_63_0 = true := by decide +kernel
set_option maxRecDepth 1000000 in
theorem ax_k_63_1 : ax_cr9 ax_w_63 ax_l_63 ax_t_63 20 1 40000 ax_p_63 ax_c_63_1 = true := by decide +kernel
theorem ax_y_63 {X : Nat × (Nat → Int32)} : ax_Y1 X ax_sp ax_rf ax_s_63 := ax_meth9 (c := ax_c_63_0) (T := ax_t_63) ax_Yn ⟨ax_k_63_0, ⟨ax_k_63_1, trivial⟩⟩ List.mem_cons_self rfl
/-! .act ('act', 0) -/
noncomputable def ax_c_64_0 : ax_ct := (0, (7, [(0, 150), (0, 150), ((-2147483648), 2147483647), ((-2147483648), 2147483647), ((-2147483648), 2147483647), ((-2147483648), 2147483647), ((-2147483648), 2147483647)], [], [], [(5, 6, 0)]), [(14, .int 16, .retAddr 6), (14, .int 12, .retAddr 5)], [some (.ref 0), some (.retAddr 0), some (.retAddr 1), some (.retAddr 2), some (.retAddr 3), some (.retAddr 4)], [(0, 1, .int 0), (0, 2, .int 0), (0, 3, .int 0), (0, 4, .int 0), (0, 5, .int 0), (1, 14, .int 12), (1, 14, .int 16)], [], [])
noncomputable def ax_t_64 : List ax_ct := [ax_c_64_0]
noncomputable def ax_w_64 : ax_D := ([(14, 16)], [(17, 22), (175, 175), (177, 178)])
noncomputable def ax_p_64 : ax_po := (some (some ((-4), 149)), [], true, false, [])
noncomputable def ax_s_64 : ax_s9 := (113, ax_sumc ax_sp ax_c_64_0 3, ax_w_64, ax_p_64)
noncomputable def ax_l_64 : ax_Y := [ax_s_63]
set_option maxRecDepth 1000000 in
theorem ax_k_64_0 : ax_cr9 ax_w_64 ax_l_64 ax_t_64 113 3 40000 ax_p_64 ax_c_64_0 = true := by decide +kernel
theorem ax_y_64 {X : Nat × (Nat → Int32)} : ax_Y1 X ax_sp ax_rf ax_s_64 := ax_meth9 (c := ax_c_64_0) (T := ax_t_64) (ax_Yc ax_y_63 ax_Yn) ⟨ax_k_64_0, trivial⟩ List.mem_cons_self rfl
/-! Model.act ('act', 0) -/
noncomputable def ax_c_65_0 : ax_ct := (0, (5, [((-2147483648), 2147483647), ((-2147483648), 2147483647), ((-2147483648), 2147483647), ((-2147483648), 2147483647), ((-2147483648), 2147483647)], [], [], []), [], [some (.ref 244), some (.retAddr 0), some (.retAddr 1), some (.retAddr 2), some (.retAddr 3), some (.retAddr 4)], [(0, 1, .int 0), (0, 2, .int 0), (0, 3, .int 0), (0, 4, .int 0), (0, 5, .int 0)], [], [])
noncomputable def ax_t_65 : List ax_ct := [ax_c_65_0]
noncomputable def ax_w_65 : ax_D := ([(244, 7)], [(249, 254)])
noncomputable def ax_p_65 : ax_po := (some (some ((-4), 149)), [], false, false, [])
noncomputable def ax_s_65 : ax_s9 := (186, ax_sumc ax_sp ax_c_65_0 3, ax_w_65, ax_p_65)
noncomputable def ax_l_65 : ax_Y := [ax_s_6]
set_option maxRecDepth 1000000 in
theorem ax_k_65_0 : ax_cr9 ax_w_65 ax_l_65 ax_t_65 186 3 40000 ax_p_65 ax_c_65_0 = true := by decide +kernel
theorem ax_y_65 {X : Nat × (Nat → Int32)} : ax_Y1 X ax_sp ax_rf ax_s_65 := ax_meth9 (c := ax_c_65_0) (T := ax_t_65) (ax_Yc ax_y_6 ax_Yn) ⟨ax_k_65_0, trivial⟩ List.mem_cons_self rfl
/-! $Book.tell ((2, None),) -/
noncomputable def ax_c_66_0 : ax_ct := (0, (6, [(0, 80), (1, 149), ((-4), (-4)), (0, 1), (0, 148), (0, 520)], [], [], [(1, 4, 1)]), [(174, .retAddr 4, .retAddr 5), (14, .int 16, .retAddr 4)], [some (.ref 14), some (.int 2), some (.retAddr 0), some (.retAddr 1), some (.retAddr 2), some (.retAddr 3), none], [(0, 2, .int 0), (0, 3, .int 0), (0, 4, .int 0), (0, 5, .int 0), (1, 14, .int 16), (1, 174, .retAddr 4)], [(false, .int 20000), (false, .int 0)], [(14, .int 16, .retAddr 4)])
noncomputable def ax_c_66_1 : ax_ct := (58, (11, [(0, 80), (0, 1), (0, 148), (2, 2), (1, 149), (0, 149), ((-4), (-4)), (0, 1), (0, 148), (0, 520), (2, 2)], [], [], [(9, 3, 0), (8, 6, 1), (8, 2, 0), (5, 6, 0), (3, 9, 0), (2, 8, 0), (2, 6, 1)]), [(174, .retAddr 6, .retAddr 10), (20, .retAddr 6, .retAddr 9), (19, .retAddr 6, .retAddr 8), (17, .retAddr 6, .retAddr 7), (14, .int 16, .retAddr 6)], [some (.ref 14), some (.retAddr 0), some (.retAddr 1), some (.retAddr 2), some (.retAddr 3), some (.retAddr 4), some (.retAddr 5)], [(0, 1, .int 0), (0, 2, .int 0), (0, 3, .int 0), (0, 4, .int 0), (0, 5, .int 0), (0, 6, .int 0), (1, 14, .int 16), (1, 17, .retAddr 6), (1, 19, .retAddr 6), (1, 20, .retAddr 6), (1, 174, .retAddr 6)], [(false, .int 9942), (false, .retAddr 5)], [(14, .int 16, .retAddr 6)])
noncomputable def ax_t_66 : List ax_ct := [ax_c_66_0, ax_c_66_1]
noncomputable def ax_w_66 : ax_D := ([(14, 16)], [(17, 21), (175, 175)])
noncomputable def ax_p_66 : ax_po := (some (some (1, 149)), [(14, 16, 1)], false, false, [])
noncomputable def ax_s_66 : ax_s9 := (20, ax_sumc ax_sp ax_c_66_0 1, ax_w_66, ax_p_66)
noncomputable def ax_l_66 : ax_Y := []
set_option maxRecDepth 1000000 in
theorem ax_k_66_0 : ax_cr9 ax_w_66 ax_l_66 ax_t_66 20 1 40000 ax_p_66 ax_c_66_0 = true := by decide +kernel
set_option maxRecDepth 1000000 in
theorem ax_k_66_1 : ax_cr9 ax_w_66 ax_l_66 ax_t_66 20 1 40000 ax_p_66 ax_c_66_1 = true := by decide +kernel
theorem ax_y_66 {X : Nat × (Nat → Int32)} : ax_Y1 X ax_sp ax_rf ax_s_66 := ax_meth9 (c := ax_c_66_0) (T := ax_t_66) ax_Yn ⟨ax_k_66_0, ⟨ax_k_66_1, trivial⟩⟩ List.mem_cons_self rfl
/-! .judge ('judge', 0) -/
noncomputable def ax_c_67_0 : ax_ct := (0, (4, [(0, 150), (0, 150), (0, 1), ((-2147483648), 2147483647)], [], [], [(2, 3, 0)]), [(14, .int 16, .retAddr 3), (14, .int 12, .retAddr 2)], [some (.ref 0), some (.retAddr 0), some (.retAddr 1)], [(0, 1, .int 0), (0, 2, .int 0), (1, 14, .int 12), (1, 14, .int 16)], [], [])
noncomputable def ax_t_67 : List ax_ct := [ax_c_67_0]
noncomputable def ax_w_67 : ax_D := ([(14, 16)], [(17, 21), (175, 175)])
noncomputable def ax_p_67 : ax_po := (some (some ((-4), 149)), [], true, false, [])
noncomputable def ax_s_67 : ax_s9 := (114, ax_sumc ax_sp ax_c_67_0 4, ax_w_67, ax_p_67)
noncomputable def ax_l_67 : ax_Y := [ax_s_66]
set_option maxRecDepth 1000000 in
theorem ax_k_67_0 : ax_cr9 ax_w_67 ax_l_67 ax_t_67 114 4 40000 ax_p_67 ax_c_67_0 = true := by decide +kernel
theorem ax_y_67 {X : Nat × (Nat → Int32)} : ax_Y1 X ax_sp ax_rf ax_s_67 := ax_meth9 (c := ax_c_67_0) (T := ax_t_67) (ax_Yc ax_y_66 ax_Yn) ⟨ax_k_67_0, trivial⟩ List.mem_cons_self rfl
/-! Model.judge ('judge', 0) -/
noncomputable def ax_c_68_0 : ax_ct := (0, (2, [(0, 1), ((-2147483648), 2147483647)], [], [], []), [], [some (.ref 244), some (.retAddr 0), some (.retAddr 1)], [(0, 1, .int 0), (0, 2, .int 0)], [], [])
noncomputable def ax_t_68 : List ax_ct := [ax_c_68_0]
noncomputable def ax_w_68 : ax_D := ([(244, 7)], [(249, 254)])
noncomputable def ax_p_68 : ax_po := (some (some ((-4), 149)), [], false, false, [])
noncomputable def ax_s_68 : ax_s9 := (187, ax_sumc ax_sp ax_c_68_0 2, ax_w_68, ax_p_68)
noncomputable def ax_l_68 : ax_Y := []
set_option maxRecDepth 1000000 in
theorem ax_k_68_0 : ax_cr9 ax_w_68 ax_l_68 ax_t_68 187 2 40000 ax_p_68 ax_c_68_0 = true := by decide +kernel
theorem ax_y_68 {X : Nat × (Nat → Int32)} : ax_Y1 X ax_sp ax_rf ax_s_68 := ax_meth9 (c := ax_c_68_0) (T := ax_t_68) ax_Yn ⟨ax_k_68_0, trivial⟩ List.mem_cons_self rfl
/-! $Book.tell ((3, None),) -/
noncomputable def ax_c_69_0 : ax_ct := (0, (6, [(0, 80), (1, 149), ((-4), (-4)), ((-4), (-4)), (0, 148), (0, 520)], [], [], [(1, 4, 1)]), [(174, .retAddr 4, .retAddr 5), (14, .int 16, .retAddr 4)], [some (.ref 14), some (.int 3), some (.retAddr 0), some (.retAddr 1), some (.retAddr 2), some (.retAddr 3), none], [(0, 2, .int 0), (0, 3, .int 0), (0, 4, .int 0), (0, 5, .int 0), (1, 14, .int 16), (1, 174, .retAddr 4)], [(false, .int 20000), (false, .int 0)], [(14, .int 16, .retAddr 4)])
noncomputable def ax_c_69_1 : ax_ct := (58, (11, [(0, 80), ((-4), (-4)), (0, 148), (3, 3), (1, 149), (0, 149), ((-4), (-4)), ((-4), (-4)), (0, 148), (0, 520), (3, 3)], [], [], [(8, 6, 1), (8, 2, 0), (5, 6, 0), (2, 8, 0), (2, 6, 1)]), [(174, .retAddr 6, .retAddr 10), (20, .retAddr 6, .retAddr 9), (19, .retAddr 6, .retAddr 8), (17, .retAddr 6, .retAddr 7), (14, .int 16, .retAddr 6)], [some (.ref 14), some (.retAddr 0), some (.retAddr 1), some (.retAddr 2), some (.retAddr 3), some (.retAddr 4), some (.retAddr 5)], [(0, 1, .int 0), (0, 2, .int 0), (0, 3, .int 0), (0, 4, .int 0), (0, 5, .int 0), (0, 6, .int 0), (1, 14, .int 16), (1, 17, .retAddr 6), (1, 19, .retAddr 6), (1, 20, .retAddr 6), (1, 174, .retAddr 6)], [(false, .int 9942), (false, .retAddr 5)], [(14, .int 16, .retAddr 6)])
noncomputable def ax_t_69 : List ax_ct := [ax_c_69_0, ax_c_69_1]
noncomputable def ax_w_69 : ax_D := ([(14, 16)], [(17, 21), (175, 175)])
noncomputable def ax_p_69 : ax_po := (some (some (1, 149)), [(14, 16, 1)], false, false, [])
noncomputable def ax_s_69 : ax_s9 := (20, ax_sumc ax_sp ax_c_69_0 1, ax_w_69, ax_p_69)
noncomputable def ax_l_69 : ax_Y := []
set_option maxRecDepth 1000000 in
theorem ax_k_69_0 : ax_cr9 ax_w_69 ax_l_69 ax_t_69 20 1 40000 ax_p_69 ax_c_69_0 = true := by decide +kernel
set_option maxRecDepth 1000000 in
theorem ax_k_69_1 : ax_cr9 ax_w_69 ax_l_69 ax_t_69 20 1 40000 ax_p_69 ax_c_69_1 = true := by decide +kernel
theorem ax_y_69 {X : Nat × (Nat → Int32)} : ax_Y1 X ax_sp ax_rf ax_s_69 := ax_meth9 (c := ax_c_69_0) (T := ax_t_69) ax_Yn ⟨ax_k_69_0, ⟨ax_k_69_1, trivial⟩⟩ List.mem_cons_self rfl
/-! .gift ('gift', 0) -/
noncomputable def ax_c_70_0 : ax_ct := (0, (3, [(0, 150), (0, 150), ((-2147483648), 2147483647)], [], [], [(1, 2, 0)]), [(14, .int 16, .retAddr 2), (14, .int 12, .retAddr 1)], [some (.ref 0), some (.retAddr 0)], [(0, 1, .int 0), (1, 14, .int 12), (1, 14, .int 16)], [], [])
noncomputable def ax_t_70 : List ax_ct := [ax_c_70_0]
noncomputable def ax_w_70 : ax_D := ([(14, 16)], [(17, 21), (175, 175), (177, 177)])
noncomputable def ax_p_70 : ax_po := (some (some ((-4), 149)), [], true, false, [])
noncomputable def ax_s_70 : ax_s9 := (115, ax_sumc ax_sp ax_c_70_0 4, ax_w_70, ax_p_70)
noncomputable def ax_l_70 : ax_Y := [ax_s_69]
set_option maxRecDepth 1000000 in
theorem ax_k_70_0 : ax_cr9 ax_w_70 ax_l_70 ax_t_70 115 4 40000 ax_p_70 ax_c_70_0 = true := by decide +kernel
theorem ax_y_70 {X : Nat × (Nat → Int32)} : ax_Y1 X ax_sp ax_rf ax_s_70 := ax_meth9 (c := ax_c_70_0) (T := ax_t_70) (ax_Yc ax_y_69 ax_Yn) ⟨ax_k_70_0, trivial⟩ List.mem_cons_self rfl
/-! Model.isGift ((),) -/
noncomputable def ax_c_71_0 : ax_ct := (0, (3, [(0, 150), (0, 150), (0, 149)], [], [], [(1, 2, 0), (0, 2, 1), (0, 1, 1)]), [(244, .int 7, .retAddr 2)], [some (.ref 244), some (.retAddr 0), some (.retAddr 1), none], [(0, 1, .int 0), (0, 2, .int 0), (1, 244, .int 7)], [(false, .int 20000), (false, .int 0)], [])
noncomputable def ax_c_71_1 : ax_ct := (2, (4, [(0, 150), (0, 150), (0, 150), (0, 149)], [], [], [(2, 1, 0), (1, 3, 0), (0, 3, 1), (0, 1, 1)]), [(244, .int 7, .retAddr 3)], [some (.ref 244), some (.retAddr 0), some (.retAddr 1), some (.retAddr 2)], [(0, 1, .int 0), (0, 2, .int 0), (0, 3, .int 0), (1, 244, .int 7)], [(false, .int 9998), (true, .retAddr 2)], [])
noncomputable def ax_t_71 : List ax_ct := [ax_c_71_0, ax_c_71_1]
noncomputable def ax_w_71 : ax_D := ([], [])
noncomputable def ax_p_71 : ax_po := (some (some (0, 1)), [], false, false, [])
noncomputable def ax_s_71 : ax_s9 := (188, ax_sumc ax_sp ax_c_71_0 1, ax_w_71, ax_p_71)
noncomputable def ax_l_71 : ax_Y := []
set_option maxRecDepth 1000000 in
theorem ax_k_71_0 : ax_cr9 ax_w_71 ax_l_71 ax_t_71 188 1 40000 ax_p_71 ax_c_71_0 = true := by decide +kernel
set_option maxRecDepth 1000000 in
theorem ax_k_71_1 : ax_cr9 ax_w_71 ax_l_71 ax_t_71 188 1 40000 ax_p_71 ax_c_71_1 = true := by decide +kernel
theorem ax_y_71 {X : Nat × (Nat → Int32)} : ax_Y1 X ax_sp ax_rf ax_s_71 := ax_meth9 (c := ax_c_71_0) (T := ax_t_71) ax_Yn ⟨ax_k_71_0, ⟨ax_k_71_1, trivial⟩⟩ List.mem_cons_self rfl
/-! Model.gift ('gift', 0) -/
noncomputable def ax_c_72_0 : ax_ct := (0, (1, [((-2147483648), 2147483647)], [], [], []), [], [some (.ref 244), some (.retAddr 0)], [(0, 1, .int 0)], [], [])
noncomputable def ax_t_72 : List ax_ct := [ax_c_72_0]
noncomputable def ax_w_72 : ax_D := ([(244, 7)], [(249, 254)])
noncomputable def ax_p_72 : ax_po := (some (some ((-4), 149)), [], false, false, [])
noncomputable def ax_s_72 : ax_s9 := (189, ax_sumc ax_sp ax_c_72_0 2, ax_w_72, ax_p_72)
noncomputable def ax_l_72 : ax_Y := [ax_s_71]
set_option maxRecDepth 1000000 in
theorem ax_k_72_0 : ax_cr9 ax_w_72 ax_l_72 ax_t_72 189 2 40000 ax_p_72 ax_c_72_0 = true := by decide +kernel
theorem ax_y_72 {X : Nat × (Nat → Int32)} : ax_Y1 X ax_sp ax_rf ax_s_72 := ax_meth9 (c := ax_c_72_0) (T := ax_t_72) (ax_Yc ax_y_71 ax_Yn) ⟨ax_k_72_0, trivial⟩ List.mem_cons_self rfl
/-! $Book.tell ((4, None),) -/
noncomputable def ax_c_73_0 : ax_ct := (0, (7, [(0, 80), (0, 149), (1, 12), (1, 1000), (0, 11), (0, 11), (0, 520)], [], [], [(2, 4, 1), (1, 4, 1)]), [(174, .retAddr 5, .retAddr 6), (14, .int 16, .retAddr 5), (1, .int 4, .retAddr 4)], [some (.ref 14), some (.int 4), some (.retAddr 0), some (.retAddr 1), some (.retAddr 2), some (.retAddr 3), none], [(0, 2, .int 0), (0, 3, .int 0), (0, 4, .int 0), (0, 5, .int 0), (1, 1, .int 4), (1, 14, .int 16), (1, 174, .retAddr 5)], [(false, .int 20000), (false, .int 0)], [(14, .int 16, .retAddr 5)])
noncomputable def ax_c_73_1 : ax_ct := (58, (12, [(0, 80), (0, 11), (0, 11), (4, 4), (0, 149), (1, 12), (0, 149), (1, 1000), (0, 11), (0, 11), (0, 520), (4, 4)], [], [], [(10, 6, 1), (10, 3, 0), (9, 6, 1), (9, 2, 0), (5, 7, 0), (3, 10, 0), (3, 6, 1), (2, 9, 0), (2, 6, 1)]), [(174, .retAddr 7, .retAddr 11), (20, .retAddr 7, .retAddr 10), (19, .retAddr 7, .retAddr 9), (17, .retAddr 7, .retAddr 8), (14, .int 16, .retAddr 7), (1, .int 4, .retAddr 6)], [some (.ref 14), some (.retAddr 0), some (.retAddr 1), some (.retAddr 2), some (.retAddr 3), some (.retAddr 4), some (.retAddr 5)], [(0, 1, .int 0), (0, 2, .int 0), (0, 3, .int 0), (0, 4, .int 0), (0, 5, .int 0), (0, 6, .int 0), (1, 1, .int 4), (1, 14, .int 16), (1, 17, .retAddr 7), (1, 19, .retAddr 7), (1, 20, .retAddr 7), (1, 174, .retAddr 7)], [(false, .int 9942), (false, .retAddr 5)], [(14, .int 16, .retAddr 7)])
noncomputable def ax_t_73 : List ax_ct := [ax_c_73_0, ax_c_73_1]
noncomputable def ax_w_73 : ax_D := ([(14, 16)], [(17, 21), (175, 175)])
noncomputable def ax_p_73 : ax_po := (some (some (0, 149)), [(14, 16, 1)], false, false, [])
noncomputable def ax_s_73 : ax_s9 := (20, ax_sumc ax_sp ax_c_73_0 1, ax_w_73, ax_p_73)
noncomputable def ax_l_73 : ax_Y := []
set_option maxRecDepth 1000000 in
theorem ax_k_73_0 : ax_cr9 ax_w_73 ax_l_73 ax_t_73 20 1 40000 ax_p_73 ax_c_73_0 = true := by decide +kernel
set_option maxRecDepth 1000000 in
theorem ax_k_73_1 : ax_cr9 ax_w_73 ax_l_73 ax_t_73 20 1 40000 ax_p_73 ax_c_73_1 = true := by decide +kernel
theorem ax_y_73 {X : Nat × (Nat → Int32)} : ax_Y1 X ax_sp ax_rf ax_s_73 := ax_meth9 (c := ax_c_73_0) (T := ax_t_73) ax_Yn ⟨ax_k_73_0, ⟨ax_k_73_1, trivial⟩⟩ List.mem_cons_self rfl
/-! .forgive ('forgive', 0) -/
noncomputable def ax_c_74_0 : ax_ct := (0, (5, [(0, 150), (0, 150), ((-2147483648), 2147483647), ((-2147483648), 2147483647), ((-2147483648), 2147483647)], [], [], [(3, 4, 0)]), [(14, .int 16, .retAddr 4), (14, .int 12, .retAddr 3)], [some (.ref 0), some (.retAddr 0), some (.retAddr 1), some (.retAddr 2)], [(0, 1, .int 0), (0, 2, .int 0), (0, 3, .int 0), (1, 14, .int 12), (1, 14, .int 16)], [], [])
noncomputable def ax_t_74 : List ax_ct := [ax_c_74_0]
noncomputable def ax_w_74 : ax_D := ([(14, 16)], [(17, 21), (175, 175)])
noncomputable def ax_p_74 : ax_po := (some (some ((-4), 149)), [], true, false, [])
noncomputable def ax_s_74 : ax_s9 := (116, ax_sumc ax_sp ax_c_74_0 3, ax_w_74, ax_p_74)
noncomputable def ax_l_74 : ax_Y := [ax_s_73]
set_option maxRecDepth 1000000 in
theorem ax_k_74_0 : ax_cr9 ax_w_74 ax_l_74 ax_t_74 116 3 40000 ax_p_74 ax_c_74_0 = true := by decide +kernel
theorem ax_y_74 {X : Nat × (Nat → Int32)} : ax_Y1 X ax_sp ax_rf ax_s_74 := ax_meth9 (c := ax_c_74_0) (T := ax_t_74) (ax_Yc ax_y_73 ax_Yn) ⟨ax_k_74_0, trivial⟩ List.mem_cons_self rfl
/-! Model.isDead ((),) -/
noncomputable def ax_c_75_0 : ax_ct := (0, (3, [(0, 150), (0, 12), (0, 11)], [], [], []), [(244, .int 7, .retAddr 2), (244, .int 1, .retAddr 1)], [some (.ref 244), some (.retAddr 0)], [(0, 1, .int 0), (1, 244, .int 1), (1, 244, .int 7)], [], [])
noncomputable def ax_t_75 : List ax_ct := [ax_c_75_0]
noncomputable def ax_w_75 : ax_D := ([], [])
noncomputable def ax_p_75 : ax_po := (some (some (0, 1)), [], false, false, [])
noncomputable def ax_s_75 : ax_s9 := (162, ax_sumc ax_sp ax_c_75_0 2, ax_w_75, ax_p_75)
noncomputable def ax_l_75 : ax_Y := [ax_s_6]
set_option maxRecDepth 1000000 in
theorem ax_k_75_0 : ax_cr9 ax_w_75 ax_l_75 ax_t_75 162 2 40000 ax_p_75 ax_c_75_0 = true := by decide +kernel
theorem ax_y_75 {X : Nat × (Nat → Int32)} : ax_Y1 X ax_sp ax_rf ax_s_75 := ax_meth9 (c := ax_c_75_0) (T := ax_t_75) (ax_Yc ax_y_6 ax_Yn) ⟨ax_k_75_0, trivial⟩ List.mem_cons_self rfl
/-! Model.forgive ('forgive', 0) -/
noncomputable def ax_c_76_0 : ax_ct := (0, (3, [((-2147483648), 2147483647), ((-2147483648), 2147483647), ((-2147483648), 2147483647)], [], [], []), [], [some (.ref 244), some (.retAddr 0), some (.retAddr 1), some (.retAddr 2)], [(0, 1, .int 0), (0, 2, .int 0), (0, 3, .int 0)], [], [])
noncomputable def ax_t_76 : List ax_ct := [ax_c_76_0]
noncomputable def ax_w_76 : ax_D := ([(244, 7)], [(249, 254)])
noncomputable def ax_p_76 : ax_po := (some (some ((-4), 149)), [], false, false, [])
noncomputable def ax_s_76 : ax_s9 := (190, ax_sumc ax_sp ax_c_76_0 3, ax_w_76, ax_p_76)
noncomputable def ax_l_76 : ax_Y := [ax_s_75]
set_option maxRecDepth 1000000 in
theorem ax_k_76_0 : ax_cr9 ax_w_76 ax_l_76 ax_t_76 190 3 40000 ax_p_76 ax_c_76_0 = true := by decide +kernel
theorem ax_y_76 {X : Nat × (Nat → Int32)} : ax_Y1 X ax_sp ax_rf ax_s_76 := ax_meth9 (c := ax_c_76_0) (T := ax_t_76) (ax_Yc ax_y_75 ax_Yn) ⟨ax_k_76_0, trivial⟩ List.mem_cons_self rfl
/-! .ring ('ring', 0) -/
noncomputable def ax_c_77_0 : ax_ct := (0, (4, [(0, 150), (0, 150), ((-2147483648), 2147483647), ((-2147483648), (-1))], [], [], [(2, 3, 0)]), [(14, .int 16, .retAddr 3), (14, .int 12, .retAddr 2)], [some (.ref 0), some (.retAddr 0), some (.retAddr 1), none], [(0, 1, .int 0), (0, 2, .int 0), (1, 14, .int 12), (1, 14, .int 16)], [], [])
noncomputable def ax_t_77 : List ax_ct := [ax_c_77_0]
noncomputable def ax_w_77 : ax_D := ([], [])
noncomputable def ax_p_77 : ax_po := (some (some ((-1), (-1))), [], true, false, [])
noncomputable def ax_s_77 : ax_s9 := (117, ax_sumc ax_sp ax_c_77_0 1, ax_w_77, ax_p_77)
noncomputable def ax_l_77 : ax_Y := []
set_option maxRecDepth 1000000 in
theorem ax_k_77_0 : ax_cr9 ax_w_77 ax_l_77 ax_t_77 117 1 40000 ax_p_77 ax_c_77_0 = true := by decide +kernel
theorem ax_y_77 {X : Nat × (Nat → Int32)} : ax_Y1 X ax_sp ax_rf ax_s_77 := ax_meth9 (c := ax_c_77_0) (T := ax_t_77) ax_Yn ⟨ax_k_77_0, trivial⟩ List.mem_cons_self rfl
/-! .ring ('ring', 1) -/
noncomputable def ax_c_78_0 : ax_ct := (0, (4, [(0, 150), (0, 150), ((-2147483648), 2147483647), (8, 2147483647)], [], [], [(2, 3, 0)]), [(14, .int 16, .retAddr 3), (14, .int 12, .retAddr 2)], [some (.ref 0), some (.retAddr 0), some (.retAddr 1), none], [(0, 1, .int 0), (0, 2, .int 0), (1, 14, .int 12), (1, 14, .int 16)], [], [])
noncomputable def ax_t_78 : List ax_ct := [ax_c_78_0]
noncomputable def ax_w_78 : ax_D := ([], [])
noncomputable def ax_p_78 : ax_po := (some (some ((-1), (-1))), [], true, false, [])
noncomputable def ax_s_78 : ax_s9 := (117, ax_sumc ax_sp ax_c_78_0 1, ax_w_78, ax_p_78)
noncomputable def ax_l_78 : ax_Y := []
set_option maxRecDepth 1000000 in
theorem ax_k_78_0 : ax_cr9 ax_w_78 ax_l_78 ax_t_78 117 1 40000 ax_p_78 ax_c_78_0 = true := by decide +kernel
theorem ax_y_78 {X : Nat × (Nat → Int32)} : ax_Y1 X ax_sp ax_rf ax_s_78 := ax_meth9 (c := ax_c_78_0) (T := ax_t_78) ax_Yn ⟨ax_k_78_0, trivial⟩ List.mem_cons_self rfl
/-! $Book.tell ((5, ('L', 6)),) -/
noncomputable def ax_c_79_0 : ax_ct := (0, (7, [(6, 6), (0, 149), (0, 12), ((-2147483648), 2147483647), (0, 11), (0, 11), (0, 520)], [], [], []), [(174, .retAddr 5, .retAddr 6), (23, .retAddr 5, .long 6), (14, .int 16, .retAddr 5), (1, .int 4, .retAddr 4)], [some (.ref 14), some (.int 5), some (.retAddr 0), some (.retAddr 1), some (.retAddr 2), some (.retAddr 3), none], [(0, 2, .int 0), (0, 3, .int 0), (0, 4, .int 0), (0, 5, .int 0), (1, 1, .int 4), (1, 14, .int 16), (1, 174, .retAddr 5)], [(false, .int 20000), (false, .int 0)], [(14, .int 16, .retAddr 5)])
noncomputable def ax_c_79_1 : ax_ct := (58, (12, [(6, 6), (0, 11), (0, 11), (5, 5), (0, 149), (0, 12), (0, 149), ((-2147483648), 2147483647), (0, 11), (0, 11), (0, 520), (5, 5)], [], [], [(10, 3, 0), (9, 2, 0), (5, 7, 0), (3, 10, 0), (2, 9, 0)]), [(23, .retAddr 7, .long 6), (174, .retAddr 7, .retAddr 11), (20, .retAddr 7, .retAddr 10), (19, .retAddr 7, .retAddr 9), (17, .retAddr 7, .retAddr 8), (14, .int 16, .retAddr 7), (1, .int 4, .retAddr 6)], [some (.ref 14), some (.retAddr 0), some (.retAddr 1), some (.retAddr 2), some (.retAddr 3), some (.retAddr 4), some (.retAddr 5)], [(0, 1, .int 0), (0, 2, .int 0), (0, 3, .int 0), (0, 4, .int 0), (0, 5, .int 0), (0, 6, .int 0), (1, 1, .int 4), (1, 14, .int 16), (1, 17, .retAddr 7), (1, 19, .retAddr 7), (1, 20, .retAddr 7), (1, 174, .retAddr 7)], [(false, .int 9942), (false, .retAddr 5)], [(14, .int 16, .retAddr 7)])
noncomputable def ax_t_79 : List ax_ct := [ax_c_79_0, ax_c_79_1]
noncomputable def ax_w_79 : ax_D := ([(14, 16)], [(17, 21), (175, 175)])
noncomputable def ax_p_79 : ax_po := (some (some (0, 149)), [(14, 16, 1)], false, false, [])
noncomputable def ax_s_79 : ax_s9 := (20, ax_sumc ax_sp ax_c_79_0 1, ax_w_79, ax_p_79)
noncomputable def ax_l_79 : ax_Y := []
set_option maxRecDepth 1000000 in
theorem ax_k_79_0 : ax_cr9 ax_w_79 ax_l_79 ax_t_79 20 1 40000 ax_p_79 ax_c_79_0 = true := by decide +kernel
set_option maxRecDepth 1000000 in
theorem ax_k_79_1 : ax_cr9 ax_w_79 ax_l_79 ax_t_79 20 1 40000 ax_p_79 ax_c_79_1 = true := by decide +kernel
theorem ax_y_79 {X : Nat × (Nat → Int32)} : ax_Y1 X ax_sp ax_rf ax_s_79 := ax_meth9 (c := ax_c_79_0) (T := ax_t_79) ax_Yn ⟨ax_k_79_0, ⟨ax_k_79_1, trivial⟩⟩ List.mem_cons_self rfl
/-! $Book.tell ((5, ('L', 2)),) -/
noncomputable def ax_c_80_0 : ax_ct := (0, (7, [(2, 2), (0, 149), (0, 12), ((-2147483648), 2147483647), (0, 11), (0, 11), (0, 520)], [], [], []), [(174, .retAddr 5, .retAddr 6), (23, .retAddr 5, .long 2), (14, .int 16, .retAddr 5), (1, .int 4, .retAddr 4)], [some (.ref 14), some (.int 5), some (.retAddr 0), some (.retAddr 1), some (.retAddr 2), some (.retAddr 3), none], [(0, 2, .int 0), (0, 3, .int 0), (0, 4, .int 0), (0, 5, .int 0), (1, 1, .int 4), (1, 14, .int 16), (1, 174, .retAddr 5)], [(false, .int 20000), (false, .int 0)], [(14, .int 16, .retAddr 5)])
noncomputable def ax_c_80_1 : ax_ct := (58, (12, [(2, 2), (0, 11), (0, 11), (5, 5), (0, 149), (0, 12), (0, 149), ((-2147483648), 2147483647), (0, 11), (0, 11), (0, 520), (5, 5)], [], [], [(10, 3, 0), (9, 2, 0), (5, 7, 0), (3, 10, 0), (2, 9, 0)]), [(23, .retAddr 7, .long 2), (174, .retAddr 7, .retAddr 11), (20, .retAddr 7, .retAddr 10), (19, .retAddr 7, .retAddr 9), (17, .retAddr 7, .retAddr 8), (14, .int 16, .retAddr 7), (1, .int 4, .retAddr 6)], [some (.ref 14), some (.retAddr 0), some (.retAddr 1), some (.retAddr 2), some (.retAddr 3), some (.retAddr 4), some (.retAddr 5)], [(0, 1, .int 0), (0, 2, .int 0), (0, 3, .int 0), (0, 4, .int 0), (0, 5, .int 0), (0, 6, .int 0), (1, 1, .int 4), (1, 14, .int 16), (1, 17, .retAddr 7), (1, 19, .retAddr 7), (1, 20, .retAddr 7), (1, 174, .retAddr 7)], [(false, .int 9942), (false, .retAddr 5)], [(14, .int 16, .retAddr 7)])
noncomputable def ax_t_80 : List ax_ct := [ax_c_80_0, ax_c_80_1]
noncomputable def ax_w_80 : ax_D := ([(14, 16)], [(17, 21), (175, 175)])
noncomputable def ax_p_80 : ax_po := (some (some (0, 149)), [(14, 16, 1)], false, false, [])
noncomputable def ax_s_80 : ax_s9 := (20, ax_sumc ax_sp ax_c_80_0 1, ax_w_80, ax_p_80)
noncomputable def ax_l_80 : ax_Y := []
set_option maxRecDepth 1000000 in
theorem ax_k_80_0 : ax_cr9 ax_w_80 ax_l_80 ax_t_80 20 1 40000 ax_p_80 ax_c_80_0 = true := by decide +kernel
set_option maxRecDepth 1000000 in
theorem ax_k_80_1 : ax_cr9 ax_w_80 ax_l_80 ax_t_80 20 1 40000 ax_p_80 ax_c_80_1 = true := by decide +kernel
theorem ax_y_80 {X : Nat × (Nat → Int32)} : ax_Y1 X ax_sp ax_rf ax_s_80 := ax_meth9 (c := ax_c_80_0) (T := ax_t_80) ax_Yn ⟨ax_k_80_0, ⟨ax_k_80_1, trivial⟩⟩ List.mem_cons_self rfl
/-! $Book.tell ((5, ('L', 4)),) -/
noncomputable def ax_c_81_0 : ax_ct := (0, (7, [(4, 4), (0, 149), (0, 12), ((-2147483648), 2147483647), (0, 11), (0, 11), (0, 520)], [], [], []), [(174, .retAddr 5, .retAddr 6), (23, .retAddr 5, .long 4), (14, .int 16, .retAddr 5), (1, .int 4, .retAddr 4)], [some (.ref 14), some (.int 5), some (.retAddr 0), some (.retAddr 1), some (.retAddr 2), some (.retAddr 3), none], [(0, 2, .int 0), (0, 3, .int 0), (0, 4, .int 0), (0, 5, .int 0), (1, 1, .int 4), (1, 14, .int 16), (1, 174, .retAddr 5)], [(false, .int 20000), (false, .int 0)], [(14, .int 16, .retAddr 5)])
noncomputable def ax_c_81_1 : ax_ct := (58, (12, [(4, 4), (0, 11), (0, 11), (5, 5), (0, 149), (0, 12), (0, 149), ((-2147483648), 2147483647), (0, 11), (0, 11), (0, 520), (5, 5)], [], [], [(10, 3, 0), (9, 2, 0), (5, 7, 0), (3, 10, 0), (2, 9, 0)]), [(23, .retAddr 7, .long 4), (174, .retAddr 7, .retAddr 11), (20, .retAddr 7, .retAddr 10), (19, .retAddr 7, .retAddr 9), (17, .retAddr 7, .retAddr 8), (14, .int 16, .retAddr 7), (1, .int 4, .retAddr 6)], [some (.ref 14), some (.retAddr 0), some (.retAddr 1), some (.retAddr 2), some (.retAddr 3), some (.retAddr 4), some (.retAddr 5)], [(0, 1, .int 0), (0, 2, .int 0), (0, 3, .int 0), (0, 4, .int 0), (0, 5, .int 0), (0, 6, .int 0), (1, 1, .int 4), (1, 14, .int 16), (1, 17, .retAddr 7), (1, 19, .retAddr 7), (1, 20, .retAddr 7), (1, 174, .retAddr 7)], [(false, .int 9942), (false, .retAddr 5)], [(14, .int 16, .retAddr 7)])
noncomputable def ax_t_81 : List ax_ct := [ax_c_81_0, ax_c_81_1]
noncomputable def ax_w_81 : ax_D := ([(14, 16)], [(17, 21), (175, 175)])
noncomputable def ax_p_81 : ax_po := (some (some (0, 149)), [(14, 16, 1)], false, false, [])
noncomputable def ax_s_81 : ax_s9 := (20, ax_sumc ax_sp ax_c_81_0 1, ax_w_81, ax_p_81)
noncomputable def ax_l_81 : ax_Y := []
set_option maxRecDepth 1000000 in
theorem ax_k_81_0 : ax_cr9 ax_w_81 ax_l_81 ax_t_81 20 1 40000 ax_p_81 ax_c_81_0 = true := by decide +kernel
set_option maxRecDepth 1000000 in
theorem ax_k_81_1 : ax_cr9 ax_w_81 ax_l_81 ax_t_81 20 1 40000 ax_p_81 ax_c_81_1 = true := by decide +kernel
theorem ax_y_81 {X : Nat × (Nat → Int32)} : ax_Y1 X ax_sp ax_rf ax_s_81 := ax_meth9 (c := ax_c_81_0) (T := ax_t_81) ax_Yn ⟨ax_k_81_0, ⟨ax_k_81_1, trivial⟩⟩ List.mem_cons_self rfl
/-! $Book.tell ((5, ('L', 5)),) -/
noncomputable def ax_c_82_0 : ax_ct := (0, (7, [(5, 5), (0, 149), (0, 12), ((-2147483648), 2147483647), (0, 11), (0, 11), (0, 520)], [], [], []), [(174, .retAddr 5, .retAddr 6), (23, .retAddr 5, .long 5), (14, .int 16, .retAddr 5), (1, .int 4, .retAddr 4)], [some (.ref 14), some (.int 5), some (.retAddr 0), some (.retAddr 1), some (.retAddr 2), some (.retAddr 3), none], [(0, 2, .int 0), (0, 3, .int 0), (0, 4, .int 0), (0, 5, .int 0), (1, 1, .int 4), (1, 14, .int 16), (1, 174, .retAddr 5)], [(false, .int 20000), (false, .int 0)], [(14, .int 16, .retAddr 5)])
noncomputable def ax_c_82_1 : ax_ct := (58, (12, [(5, 5), (0, 11), (0, 11), (5, 5), (0, 149), (0, 12), (0, 149), ((-2147483648), 2147483647), (0, 11), (0, 11), (0, 520), (5, 5)], [], [], [(10, 3, 0), (9, 2, 0), (5, 7, 0), (3, 10, 0), (2, 9, 0)]), [(23, .retAddr 7, .long 5), (174, .retAddr 7, .retAddr 11), (20, .retAddr 7, .retAddr 10), (19, .retAddr 7, .retAddr 9), (17, .retAddr 7, .retAddr 8), (14, .int 16, .retAddr 7), (1, .int 4, .retAddr 6)], [some (.ref 14), some (.retAddr 0), some (.retAddr 1), some (.retAddr 2), some (.retAddr 3), some (.retAddr 4), some (.retAddr 5)], [(0, 1, .int 0), (0, 2, .int 0), (0, 3, .int 0), (0, 4, .int 0), (0, 5, .int 0), (0, 6, .int 0), (1, 1, .int 4), (1, 14, .int 16), (1, 17, .retAddr 7), (1, 19, .retAddr 7), (1, 20, .retAddr 7), (1, 174, .retAddr 7)], [(false, .int 9942), (false, .retAddr 5)], [(14, .int 16, .retAddr 7)])
noncomputable def ax_t_82 : List ax_ct := [ax_c_82_0, ax_c_82_1]
noncomputable def ax_w_82 : ax_D := ([(14, 16)], [(17, 21), (175, 175)])
noncomputable def ax_p_82 : ax_po := (some (some (0, 149)), [(14, 16, 1)], false, false, [])
noncomputable def ax_s_82 : ax_s9 := (20, ax_sumc ax_sp ax_c_82_0 1, ax_w_82, ax_p_82)
noncomputable def ax_l_82 : ax_Y := []
set_option maxRecDepth 1000000 in
theorem ax_k_82_0 : ax_cr9 ax_w_82 ax_l_82 ax_t_82 20 1 40000 ax_p_82 ax_c_82_0 = true := by decide +kernel
set_option maxRecDepth 1000000 in
theorem ax_k_82_1 : ax_cr9 ax_w_82 ax_l_82 ax_t_82 20 1 40000 ax_p_82 ax_c_82_1 = true := by decide +kernel
theorem ax_y_82 {X : Nat × (Nat → Int32)} : ax_Y1 X ax_sp ax_rf ax_s_82 := ax_meth9 (c := ax_c_82_0) (T := ax_t_82) ax_Yn ⟨ax_k_82_0, ⟨ax_k_82_1, trivial⟩⟩ List.mem_cons_self rfl
/-! $Book.tell ((5, ('L', 3)),) -/
noncomputable def ax_c_83_0 : ax_ct := (0, (7, [(3, 3), (0, 149), (0, 12), ((-2147483648), 2147483647), (0, 11), (0, 11), (0, 520)], [], [], []), [(174, .retAddr 5, .retAddr 6), (23, .retAddr 5, .long 3), (14, .int 16, .retAddr 5), (1, .int 4, .retAddr 4)], [some (.ref 14), some (.int 5), some (.retAddr 0), some (.retAddr 1), some (.retAddr 2), some (.retAddr 3), none], [(0, 2, .int 0), (0, 3, .int 0), (0, 4, .int 0), (0, 5, .int 0), (1, 1, .int 4), (1, 14, .int 16), (1, 174, .retAddr 5)], [(false, .int 20000), (false, .int 0)], [(14, .int 16, .retAddr 5)])
noncomputable def ax_c_83_1 : ax_ct := (58, (12, [(3, 3), (0, 11), (0, 11), (5, 5), (0, 149), (0, 12), (0, 149), ((-2147483648), 2147483647), (0, 11), (0, 11), (0, 520), (5, 5)], [], [], [(10, 3, 0), (9, 2, 0), (5, 7, 0), (3, 10, 0), (2, 9, 0)]), [(23, .retAddr 7, .long 3), (174, .retAddr 7, .retAddr 11), (20, .retAddr 7, .retAddr 10), (19, .retAddr 7, .retAddr 9), (17, .retAddr 7, .retAddr 8), (14, .int 16, .retAddr 7), (1, .int 4, .retAddr 6)], [some (.ref 14), some (.retAddr 0), some (.retAddr 1), some (.retAddr 2), some (.retAddr 3), some (.retAddr 4), some (.retAddr 5)], [(0, 1, .int 0), (0, 2, .int 0), (0, 3, .int 0), (0, 4, .int 0), (0, 5, .int 0), (0, 6, .int 0), (1, 1, .int 4), (1, 14, .int 16), (1, 17, .retAddr 7), (1, 19, .retAddr 7), (1, 20, .retAddr 7), (1, 174, .retAddr 7)], [(false, .int 9942), (false, .retAddr 5)], [(14, .int 16, .retAddr 7)])
noncomputable def ax_t_83 : List ax_ct := [ax_c_83_0, ax_c_83_1]
noncomputable def ax_w_83 : ax_D := ([(14, 16)], [(17, 21), (175, 175)])
noncomputable def ax_p_83 : ax_po := (some (some (0, 149)), [(14, 16, 1)], false, false, [])
noncomputable def ax_s_83 : ax_s9 := (20, ax_sumc ax_sp ax_c_83_0 1, ax_w_83, ax_p_83)
noncomputable def ax_l_83 : ax_Y := []
set_option maxRecDepth 1000000 in
theorem ax_k_83_0 : ax_cr9 ax_w_83 ax_l_83 ax_t_83 20 1 40000 ax_p_83 ax_c_83_0 = true := by decide +kernel
set_option maxRecDepth 1000000 in
theorem ax_k_83_1 : ax_cr9 ax_w_83 ax_l_83 ax_t_83 20 1 40000 ax_p_83 ax_c_83_1 = true := by decide +kernel
theorem ax_y_83 {X : Nat × (Nat → Int32)} : ax_Y1 X ax_sp ax_rf ax_s_83 := ax_meth9 (c := ax_c_83_0) (T := ax_t_83) ax_Yn ⟨ax_k_83_0, ⟨ax_k_83_1, trivial⟩⟩ List.mem_cons_self rfl
/-! .ring ('ring', 2) -/
noncomputable def ax_c_84_0 : ax_ct := (0, (4, [(0, 150), (0, 150), ((-2147483648), 2147483647), (0, 0)], [], [], [(2, 3, 0)]), [(14, .int 16, .retAddr 3), (14, .int 12, .retAddr 2)], [some (.ref 0), some (.retAddr 0), some (.retAddr 1), none], [(0, 1, .int 0), (0, 2, .int 0), (1, 14, .int 12), (1, 14, .int 16)], [], [])
noncomputable def ax_t_84 : List ax_ct := [ax_c_84_0]
noncomputable def ax_w_84 : ax_D := ([(14, 16)], [(17, 21), (24, 175)])
noncomputable def ax_p_84 : ax_po := (some (some ((-15), 149)), [], true, false, [])
noncomputable def ax_s_84 : ax_s9 := (117, ax_sumc ax_sp ax_c_84_0 5, ax_w_84, ax_p_84)
noncomputable def ax_l_84 : ax_Y := [ax_s_80, ax_s_83, ax_s_81, ax_s_82, ax_s_79]
set_option maxRecDepth 1000000 in
theorem ax_k_84_0 : ax_cr9 ax_w_84 ax_l_84 ax_t_84 117 5 40000 ax_p_84 ax_c_84_0 = true := by decide +kernel
theorem ax_y_84 {X : Nat × (Nat → Int32)} : ax_Y1 X ax_sp ax_rf ax_s_84 := ax_meth9 (c := ax_c_84_0) (T := ax_t_84) (ax_Yc ax_y_80 (ax_Yc ax_y_83 (ax_Yc ax_y_81 (ax_Yc ax_y_82 (ax_Yc ax_y_79 ax_Yn))))) ⟨ax_k_84_0, trivial⟩ List.mem_cons_self rfl
/-! .ring ('ring', 3) -/
noncomputable def ax_c_85_0 : ax_ct := (0, (4, [(0, 150), (0, 150), ((-2147483648), 2147483647), (1, 1)], [], [], [(2, 3, 0)]), [(14, .int 16, .retAddr 3), (14, .int 12, .retAddr 2)], [some (.ref 0), some (.retAddr 0), some (.retAddr 1), none], [(0, 1, .int 0), (0, 2, .int 0), (1, 14, .int 12), (1, 14, .int 16)], [], [])
noncomputable def ax_t_85 : List ax_ct := [ax_c_85_0]
noncomputable def ax_w_85 : ax_D := ([(14, 16)], [(17, 21), (24, 175)])
noncomputable def ax_p_85 : ax_po := (some (some ((-15), 149)), [], true, false, [])
noncomputable def ax_s_85 : ax_s9 := (117, ax_sumc ax_sp ax_c_85_0 5, ax_w_85, ax_p_85)
noncomputable def ax_l_85 : ax_Y := [ax_s_80, ax_s_83, ax_s_81, ax_s_82, ax_s_79]
set_option maxRecDepth 1000000 in
theorem ax_k_85_0 : ax_cr9 ax_w_85 ax_l_85 ax_t_85 117 5 40000 ax_p_85 ax_c_85_0 = true := by decide +kernel
theorem ax_y_85 {X : Nat × (Nat → Int32)} : ax_Y1 X ax_sp ax_rf ax_s_85 := ax_meth9 (c := ax_c_85_0) (T := ax_t_85) (ax_Yc ax_y_80 (ax_Yc ax_y_83 (ax_Yc ax_y_81 (ax_Yc ax_y_82 (ax_Yc ax_y_79 ax_Yn))))) ⟨ax_k_85_0, trivial⟩ List.mem_cons_self rfl
