/-! Model.ring ('ring', 8) -/
noncomputable def ax_c_100_0 : ax_ct := (0, (2, [((-2147483648), 2147483647), (6, 6)], [], [], []), [], [some (.ref 244), some (.retAddr 0), some (.retAddr 1), none], [(0, 1, .int 0), (0, 2, .int 0)], [], [])
noncomputable def ax_t_100 : List ax_ct := [ax_c_100_0]
noncomputable def ax_w_100 : ax_D := ([(244, 7)], [(249, 256)])
noncomputable def ax_p_100 : ax_po := (some (some ((-15), 149)), [], false, false, [])
noncomputable def ax_s_100 : ax_s9 := (192, ax_sumc ax_sp ax_c_100_0 3, ax_w_100, ax_p_100)
/-! Model.ring ('ring', 9) -/
noncomputable def ax_c_101_0 : ax_ct := (0, (2, [((-2147483648), 2147483647), (7, 7)], [], [], []), [], [some (.ref 244), some (.retAddr 0), some (.retAddr 1), none], [(0, 1, .int 0), (0, 2, .int 0)], [], [])
noncomputable def ax_t_101 : List ax_ct := [ax_c_101_0]
noncomputable def ax_w_101 : ax_D := ([(244, 7)], [(249, 256)])
noncomputable def ax_p_101 : ax_po := (some (some ((-15), 149)), [], false, false, [])
noncomputable def ax_s_101 : ax_s9 := (192, ax_sumc ax_sp ax_c_101_0 3, ax_w_101, ax_p_101)
/-! $Book.tell ((6, None),) -/
noncomputable def ax_c_102_0 : ax_ct := (0, (7, [(0, 80), (0, 149), (1, 12), ((-4), (-4)), (0, 11), (0, 11), (0, 520)], [], [], [(2, 4, 1), (1, 4, 1)]), [(174, .retAddr 5, .retAddr 6), (14, .int 16, .retAddr 5), (1, .int 4, .retAddr 4)], [some (.ref 14), some (.int 6), some (.retAddr 0), some (.retAddr 1), some (.retAddr 2), some (.retAddr 3), none], [(0, 2, .int 0), (0, 3, .int 0), (0, 4, .int 0), (0, 5, .int 0), (1, 1, .int 4), (1, 14, .int 16), (1, 174, .retAddr 5)], [(false, .int 20000), (false, .int 0)], [(14, .int 16, .retAddr 5)])
noncomputable def ax_c_102_1 : ax_ct := (58, (12, [(0, 80), (0, 11), (0, 11), (6, 6), (0, 149), (1, 12), (0, 149), ((-4), (-4)), (0, 11), (0, 11), (0, 520), (6, 6)], [], [], [(10, 6, 1), (10, 3, 0), (9, 6, 1), (9, 2, 0), (5, 7, 0), (3, 10, 0), (3, 6, 1), (2, 9, 0), (2, 6, 1)]), [(174, .retAddr 7, .retAddr 11), (20, .retAddr 7, .retAddr 10), (19, .retAddr 7, .retAddr 9), (17, .retAddr 7, .retAddr 8), (14, .int 16, .retAddr 7), (1, .int 4, .retAddr 6)], [some (.ref 14), some (.retAddr 0), some (.retAddr 1), some (.retAddr 2), some (.retAddr 3), some (.retAddr 4), some (.retAddr 5)], [(0, 1, .int 0), (0, 2, .int 0), (0, 3, .int 0), (0, 4, .int 0), (0, 5, .int 0), (0, 6, .int 0), (1, 1, .int 4), (1, 14, .int 16), (1, 17, .retAddr 7), (1, 19, .retAddr 7), (1, 20, .retAddr 7), (1, 174, .retAddr 7)], [(false, .int 9942), (false, .retAddr 5)], [(14, .int 16, .retAddr 7)])
noncomputable def ax_t_102 : List ax_ct := [ax_c_102_0, ax_c_102_1]
noncomputable def ax_w_102 : ax_D := ([(14, 16)], [(17, 21), (175, 175)])
noncomputable def ax_p_102 : ax_po := (some (some (0, 149)), [(14, 16, 1)], false, false, [])
noncomputable def ax_s_102 : ax_s9 := (20, ax_sumc ax_sp ax_c_102_0 1, ax_w_102, ax_p_102)
noncomputable def ax_l_102 : ax_Y := []
set_option maxRecDepth 1000000 in
theorem ax_k_102_0 : ax_cr9 ax_w_102 ax_l_102 ax_t_102 20 1 40000 ax_p_102 ax_c_102_0 = true := by decide +kernel
set_option maxRecDepth 1000000 in
theorem ax_k_102_1 : ax_cr9 ax_w_102 ax_l_102 ax_t_102 20 1 40000 ax_p_102 ax_c_102_1 = true := by decide +kernel
theorem ax_y_102 {X : Nat × (Nat → Int32)} : ax_Y1 X ax_sp ax_rf ax_s_102 := ax_meth9 (c := ax_c_102_0) (T := ax_t_102) ax_Yn ⟨ax_k_102_0, ⟨ax_k_102_1, trivial⟩⟩ List.mem_cons_self rfl
/-! .death ('death', 0) -/
noncomputable def ax_c_103_0 : ax_ct := (0, (4, [(0, 150), (0, 150), ((-2147483648), 2147483647), ((-2147483648), 2147483647)], [], [], [(2, 3, 0)]), [(14, .int 16, .retAddr 3), (14, .int 12, .retAddr 2)], [some (.ref 0), some (.retAddr 0), some (.retAddr 1)], [(0, 1, .int 0), (0, 2, .int 0), (1, 14, .int 12), (1, 14, .int 16)], [], [])
noncomputable def ax_t_103 : List ax_ct := [ax_c_103_0]
noncomputable def ax_w_103 : ax_D := ([(14, 16)], [(5, 5), (17, 21), (175, 175)])
noncomputable def ax_p_103 : ax_po := (some (some ((-4), 149)), [], true, false, [])
noncomputable def ax_s_103 : ax_s9 := (118, ax_sumc ax_sp ax_c_103_0 3, ax_w_103, ax_p_103)
noncomputable def ax_l_103 : ax_Y := [ax_s_102]
set_option maxRecDepth 1000000 in
theorem ax_k_103_0 : ax_cr9 ax_w_103 ax_l_103 ax_t_103 118 3 40000 ax_p_103 ax_c_103_0 = true := by decide +kernel
theorem ax_y_103 {X : Nat × (Nat → Int32)} : ax_Y1 X ax_sp ax_rf ax_s_103 := ax_meth9 (c := ax_c_103_0) (T := ax_t_103) (ax_Yc ax_y_102 ax_Yn) ⟨ax_k_103_0, trivial⟩ List.mem_cons_self rfl
/-! Model.death ('death', 0) -/
noncomputable def ax_c_104_0 : ax_ct := (0, (2, [((-2147483648), 2147483647), ((-2147483648), 2147483647)], [], [], []), [], [some (.ref 244), some (.retAddr 0), some (.retAddr 1)], [(0, 1, .int 0), (0, 2, .int 0)], [], [])
noncomputable def ax_t_104 : List ax_ct := [ax_c_104_0]
noncomputable def ax_w_104 : ax_D := ([(244, 7)], [(249, 254)])
noncomputable def ax_p_104 : ax_po := (some (some ((-4), 149)), [], false, false, [])
noncomputable def ax_s_104 : ax_s9 := (193, ax_sumc ax_sp ax_c_104_0 3, ax_w_104, ax_p_104)
noncomputable def ax_l_104 : ax_Y := [ax_s_75]
set_option maxRecDepth 1000000 in
theorem ax_k_104_0 : ax_cr9 ax_w_104 ax_l_104 ax_t_104 193 3 40000 ax_p_104 ax_c_104_0 = true := by decide +kernel
theorem ax_y_104 {X : Nat × (Nat → Int32)} : ax_Y1 X ax_sp ax_rf ax_s_104 := ax_meth9 (c := ax_c_104_0) (T := ax_t_104) (ax_Yc ax_y_75 ax_Yn) ⟨ax_k_104_0, trivial⟩ List.mem_cons_self rfl
/-! .entry ('entry', 0) -/
noncomputable def ax_c_105_0 : ax_ct := (0, (2, [((-2147483648), 2147483647), ((-2147483648), 2147483647)], [], [], []), [], [some (.ref 0), some (.retAddr 0), some (.retAddr 1)], [(0, 1, .int 0), (0, 2, .int 0)], [], [])
noncomputable def ax_t_105 : List ax_ct := [ax_c_105_0]
noncomputable def ax_w_105 : ax_D := ([], [])
noncomputable def ax_p_105 : ax_po := (some (some ((-2147483648), 2147483647)), [], false, false, [])
noncomputable def ax_s_105 : ax_s9 := (119, ax_sumc ax_sp ax_c_105_0 1, ax_w_105, ax_p_105)
noncomputable def ax_l_105 : ax_Y := []
set_option maxRecDepth 1000000 in
theorem ax_k_105_0 : ax_cr9 ax_w_105 ax_l_105 ax_t_105 119 1 40000 ax_p_105 ax_c_105_0 = true := by decide +kernel
theorem ax_y_105 {X : Nat × (Nat → Int32)} : ax_Y1 X ax_sp ax_rf ax_s_105 := ax_meth9 (c := ax_c_105_0) (T := ax_t_105) ax_Yn ⟨ax_k_105_0, trivial⟩ List.mem_cons_self rfl
/-! Model.entry ('entry', 0) -/
noncomputable def ax_c_106_0 : ax_ct := (0, (2, [((-2147483648), 2147483647), ((-2147483648), 2147483647)], [], [], []), [], [some (.ref 244), some (.retAddr 0), some (.retAddr 1)], [(0, 1, .int 0), (0, 2, .int 0)], [], [])
noncomputable def ax_t_106 : List ax_ct := [ax_c_106_0]
noncomputable def ax_w_106 : ax_D := ([], [])
noncomputable def ax_p_106 : ax_po := (some (some ((-2147483648), 2147483647)), [], false, false, [])
noncomputable def ax_s_106 : ax_s9 := (194, ax_sumc ax_sp ax_c_106_0 1, ax_w_106, ax_p_106)
noncomputable def ax_l_106 : ax_Y := []
set_option maxRecDepth 1000000 in
theorem ax_k_106_0 : ax_cr9 ax_w_106 ax_l_106 ax_t_106 194 1 40000 ax_p_106 ax_c_106_0 = true := by decide +kernel
theorem ax_y_106 {X : Nat × (Nat → Int32)} : ax_Y1 X ax_sp ax_rf ax_s_106 := ax_meth9 (c := ax_c_106_0) (T := ax_t_106) ax_Yn ⟨ax_k_106_0, trivial⟩ List.mem_cons_self rfl
/-! $Book.verdictOn ((),) -/
noncomputable def ax_c_107_0 : ax_ct := (0, (3, [(1, 150), (1, 150), (0, 149)], [], [], [(1, 2, 0), (0, 2, 1), (0, 1, 1)]), [(14, .int 16, .retAddr 2)], [some (.ref 14), some (.retAddr 0), some (.retAddr 1), none], [(0, 1, .int 0), (0, 2, .int 0), (1, 14, .int 16)], [(false, .int 20000), (false, .int 0)], [])
noncomputable def ax_c_107_1 : ax_ct := (4, (4, [(1, 150), (0, 149), (1, 150), (0, 149)], [], [], [(2, 3, 1), (2, 1, 1), (1, 3, 0), (0, 3, 1), (0, 2, 0), (0, 1, 1)]), [(14, .int 16, .retAddr 3)], [some (.ref 14), some (.retAddr 0), some (.retAddr 1), some (.retAddr 2)], [(0, 1, .int 0), (0, 2, .int 0), (0, 3, .int 0), (1, 14, .int 16)], [(false, .int 9996), (false, .retAddr 2)], [])
noncomputable def ax_t_107 : List ax_ct := [ax_c_107_0, ax_c_107_1]
noncomputable def ax_w_107 : ax_D := ([], [])
noncomputable def ax_p_107 : ax_po := (some (some ((-4), 11)), [], false, false, [])
noncomputable def ax_s_107 : ax_s9 := (23, ax_sumc ax_sp ax_c_107_0 1, ax_w_107, ax_p_107)
noncomputable def ax_l_107 : ax_Y := []
set_option maxRecDepth 1000000 in
theorem ax_k_107_0 : ax_cr9 ax_w_107 ax_l_107 ax_t_107 23 1 40000 ax_p_107 ax_c_107_0 = true := by decide +kernel
set_option maxRecDepth 1000000 in
theorem ax_k_107_1 : ax_cr9 ax_w_107 ax_l_107 ax_t_107 23 1 40000 ax_p_107 ax_c_107_1 = true := by decide +kernel
theorem ax_y_107 {X : Nat × (Nat → Int32)} : ax_Y1 X ax_sp ax_rf ax_s_107 := ax_meth9 (c := ax_c_107_0) (T := ax_t_107) ax_Yn ⟨ax_k_107_0, ⟨ax_k_107_1, trivial⟩⟩ List.mem_cons_self rfl
/-! $Book.customIn ((),) -/
noncomputable def ax_c_108_0 : ax_ct := (0, (4, [(1, 150), (0, 12), (1, 150), (0, 520)], [], [], [(1, 3, 0)]), [(14, .int 16, .retAddr 3), (1, .int 4, .retAddr 2)], [some (.ref 14), some (.retAddr 0), some (.retAddr 1), none], [(0, 1, .int 0), (0, 2, .int 0), (1, 1, .int 4), (1, 14, .int 16)], [(false, .int 20000), (false, .int 0)], [])
noncomputable def ax_c_108_1 : ax_ct := (7, (5, [(1, 150), (0, 12), ((-1), 149), (1, 150), (0, 520)], [], [], [(1, 4, 0)]), [(14, .int 16, .retAddr 4), (1, .int 4, .retAddr 3)], [some (.ref 14), some (.retAddr 0), some (.retAddr 1), some (.retAddr 2)], [(0, 1, .int 0), (0, 2, .int 0), (0, 3, .int 0), (1, 1, .int 4), (1, 14, .int 16)], [(false, .int 9993), (false, .retAddr 2)], [])
noncomputable def ax_t_108 : List ax_ct := [ax_c_108_0, ax_c_108_1]
noncomputable def ax_w_108 : ax_D := ([], [])
noncomputable def ax_p_108 : ax_po := (some (some ((-1), 149)), [], false, false, [])
noncomputable def ax_s_108 : ax_s9 := (27, ax_sumc ax_sp ax_c_108_0 1, ax_w_108, ax_p_108)
noncomputable def ax_l_108 : ax_Y := []
set_option maxRecDepth 1000000 in
theorem ax_k_108_0 : ax_cr9 ax_w_108 ax_l_108 ax_t_108 27 1 40000 ax_p_108 ax_c_108_0 = true := by decide +kernel
set_option maxRecDepth 1000000 in
theorem ax_k_108_1 : ax_cr9 ax_w_108 ax_l_108 ax_t_108 27 1 40000 ax_p_108 ax_c_108_1 = true := by decide +kernel
theorem ax_y_108 {X : Nat × (Nat → Int32)} : ax_Y1 X ax_sp ax_rf ax_s_108 := ax_meth9 (c := ax_c_108_0) (T := ax_t_108) ax_Yn ⟨ax_k_108_0, ⟨ax_k_108_1, trivial⟩⟩ List.mem_cons_self rfl
/-! $Reader.expect ((24,),) -/
noncomputable def ax_c_109_0 : ax_ct := (0, (4, [(24, 173), (1, 150), (0, 12), (36, 100)], [], [], []), [(15, .int 0, .float 3), (14, .int 16, .retAddr 2), (1, .int 4, .retAddr 1)], [some (.ref 15), some (.retAddr 0)], [(0, 1, .int 0), (1, 1, .int 4), (1, 14, .int 16), (1, 15, .int 0)], [], [])
noncomputable def ax_t_109 : List ax_ct := [ax_c_109_0]
noncomputable def ax_w_109 : ax_D := ([(15, 2), (15, 3)], [])
noncomputable def ax_p_109 : ax_po := (none, [], false, false, [])
noncomputable def ax_s_109 : ax_s9 := (69, ax_sumc ax_sp ax_c_109_0 1, ax_w_109, ax_p_109)
noncomputable def ax_l_109 : ax_Y := []
set_option maxRecDepth 1000000 in
theorem ax_k_109_0 : ax_cr9 ax_w_109 ax_l_109 ax_t_109 69 1 40000 ax_p_109 ax_c_109_0 = true := by decide +kernel
theorem ax_y_109 {X : Nat × (Nat → Int32)} : ax_Y1 X ax_sp ax_rf ax_s_109 := ax_meth9 (c := ax_c_109_0) (T := ax_t_109) ax_Yn ⟨ax_k_109_0, trivial⟩ List.mem_cons_self rfl
/-! $Reader.atom ((8, 24),) -/
noncomputable def ax_c_110_0 : ax_ct := (0, (3, [(24, 173), (1, 150), (0, 12)], [], [], []), [(15, .int 0, .float 2), (14, .int 16, .retAddr 1), (1, .int 4, .retAddr 0)], [some (.ref 15), some (.int 8), none, none], [(1, 1, .int 4), (1, 14, .int 16), (1, 15, .int 0)], [], [])
noncomputable def ax_t_110 : List ax_ct := [ax_c_110_0]
noncomputable def ax_w_110 : ax_D := ([(15, 2), (15, 3)], [])
noncomputable def ax_p_110 : ax_po := (some (some ((-2147483648), 2147483647)), [], false, false, [])
noncomputable def ax_s_110 : ax_s9 := (73, ax_sumc ax_sp ax_c_110_0 2, ax_w_110, ax_p_110)
noncomputable def ax_l_110 : ax_Y := []
set_option maxRecDepth 1000000 in
theorem ax_k_110_0 : ax_cr9 ax_w_110 ax_l_110 ax_t_110 73 2 40000 ax_p_110 ax_c_110_0 = true := by decide +kernel
theorem ax_y_110 {X : Nat × (Nat → Int32)} : ax_Y1 X ax_sp ax_rf ax_s_110 := ax_meth9 (c := ax_c_110_0) (T := ax_t_110) ax_Yn ⟨ax_k_110_0, trivial⟩ List.mem_cons_self rfl
/-! $Reader.product ((8, 24),) -/
noncomputable def ax_c_111_0 : ax_ct := (0, (3, [(24, 173), (1, 150), (0, 12)], [], [], []), [(15, .int 0, .float 2), (14, .int 16, .retAddr 1), (1, .int 4, .retAddr 0)], [some (.ref 15), some (.int 8), none, none, none, none], [(1, 1, .int 4), (1, 14, .int 16), (1, 15, .int 0)], [(false, .int 20000), (false, .int 0)], [])
noncomputable def ax_c_111_1 : ax_ct := (8, (6, [(24, 173), (1, 150), (0, 12), (0, 80), ((-2147483648), 2147483647), (8, 8)], [], [], []), [(15, .int 0, .float 5), (14, .int 16, .retAddr 4), (1, .int 4, .retAddr 3)], [some (.ref 15), some (.retAddr 0), some (.retAddr 1), some (.retAddr 2), none, none], [(0, 1, .int 0), (0, 2, .int 0), (0, 3, .int 0), (1, 1, .int 4), (1, 14, .int 16), (1, 15, .int 0)], [(false, .int 9992), (true, .retAddr 2)], [])
noncomputable def ax_t_111 : List ax_ct := [ax_c_111_0, ax_c_111_1]
noncomputable def ax_w_111 : ax_D := ([(15, 2), (15, 3)], [])
noncomputable def ax_p_111 : ax_po := (some (some ((-2147483648), 2147483647)), [], false, false, [])
noncomputable def ax_s_111 : ax_s9 := (71, ax_sumc ax_sp ax_c_111_0 3, ax_w_111, ax_p_111)
noncomputable def ax_l_111 : ax_Y := [ax_s_110]
set_option maxRecDepth 1000000 in
theorem ax_k_111_0 : ax_cr9 ax_w_111 ax_l_111 ax_t_111 71 3 40000 ax_p_111 ax_c_111_0 = true := by decide +kernel
set_option maxRecDepth 1000000 in
theorem ax_k_111_1 : ax_cr9 ax_w_111 ax_l_111 ax_t_111 71 3 40000 ax_p_111 ax_c_111_1 = true := by decide +kernel
theorem ax_y_111 {X : Nat × (Nat → Int32)} : ax_Y1 X ax_sp ax_rf ax_s_111 := ax_meth9 (c := ax_c_111_0) (T := ax_t_111) (ax_Yc ax_y_110 ax_Yn) ⟨ax_k_111_0, ⟨ax_k_111_1, trivial⟩⟩ List.mem_cons_self rfl
