/-! .folk ('folk', 0) -/
noncomputable def ax_c_0_0 : ax_ct := (0, (3, [((-2147483648), 2147483647), ((-2147483648), 2147483647), ((-2147483648), 2147483647)], [], [], []), [], [some (.ref 0), some (.retAddr 0), some (.retAddr 1), some (.retAddr 2)], [(0, 1, .int 0), (0, 2, .int 0), (0, 3, .int 0)], [], [])
noncomputable def ax_t_0 : List ax_ct := [ax_c_0_0]
noncomputable def ax_w_0 : ax_D := ([(1, 4)], [(2, 5)])
noncomputable def ax_p_0 : ax_po := (some (some ((-4), 11)), [], false, false, [])
noncomputable def ax_s_0 : ax_s9 := (106, ax_sumc ax_sp ax_c_0_0 1, ax_w_0, ax_p_0)
noncomputable def ax_l_0 : ax_Y := []
set_option maxRecDepth 1000000 in
theorem ax_k_0_0 : ax_cr9 ax_w_0 ax_l_0 ax_t_0 106 1 40000 ax_p_0 ax_c_0_0 = true := by decide +kernel
theorem ax_y_0 {X : Nat × (Nat → Int32)} : ax_Y1 X ax_sp ax_rf ax_s_0 := ax_meth9 (c := ax_c_0_0) (T := ax_t_0) ax_Yn ⟨ax_k_0_0, trivial⟩ List.mem_cons_self rfl
/-! Model.folk ('folk', 0) -/
noncomputable def ax_c_1_0 : ax_ct := (0, (3, [((-2147483648), 2147483647), ((-2147483648), 2147483647), ((-2147483648), 2147483647)], [], [], []), [], [some (.ref 244), some (.retAddr 0), some (.retAddr 1), some (.retAddr 2)], [(0, 1, .int 0), (0, 2, .int 0), (0, 3, .int 0)], [], [])
noncomputable def ax_t_1 : List ax_ct := [ax_c_1_0]
noncomputable def ax_w_1 : ax_D := ([(244, 1)], [(245, 247)])
noncomputable def ax_p_1 : ax_po := (some (some ((-4), 11)), [], false, false, [])
noncomputable def ax_s_1 : ax_s9 := (160, ax_sumc ax_sp ax_c_1_0 1, ax_w_1, ax_p_1)
noncomputable def ax_l_1 : ax_Y := []
set_option maxRecDepth 1000000 in
theorem ax_k_1_0 : ax_cr9 ax_w_1 ax_l_1 ax_t_1 160 1 40000 ax_p_1 ax_c_1_0 = true := by decide +kernel
theorem ax_y_1 {X : Nat × (Nat → Int32)} : ax_Y1 X ax_sp ax_rf ax_s_1 := ax_meth9 (c := ax_c_1_0) (T := ax_t_1) ax_Yn ⟨ax_k_1_0, trivial⟩ List.mem_cons_self rfl
/-! $Folk.hoursOf ((),) -/
noncomputable def ax_c_2_0 : ax_ct := (0, (2, [(0, 12), (0, 11)], [], [], []), [(1, .int 4, .retAddr 1)], [some (.ref 1), some (.retAddr 0)], [(0, 1, .int 0), (1, 1, .int 4)], [], [])
noncomputable def ax_t_2 : List ax_ct := [ax_c_2_0]
noncomputable def ax_w_2 : ax_D := ([], [])
noncomputable def ax_p_2 : ax_po := (some (some (5, 12)), [], false, false, [])
noncomputable def ax_s_2 : ax_s9 := (48, ax_sumc ax_sp ax_c_2_0 1, ax_w_2, ax_p_2)
noncomputable def ax_l_2 : ax_Y := []
set_option maxRecDepth 1000000 in
theorem ax_k_2_0 : ax_cr9 ax_w_2 ax_l_2 ax_t_2 48 1 40000 ax_p_2 ax_c_2_0 = true := by decide +kernel
theorem ax_y_2 {X : Nat × (Nat → Int32)} : ax_Y1 X ax_sp ax_rf ax_s_2 := ax_meth9 (c := ax_c_2_0) (T := ax_t_2) ax_Yn ⟨ax_k_2_0, trivial⟩ List.mem_cons_self rfl
/-! $Folk.worthOf ((),) -/
noncomputable def ax_c_3_0 : ax_ct := (0, (2, [(0, 12), (0, 11)], [], [], []), [(1, .int 4, .retAddr 1)], [some (.ref 1), some (.retAddr 0)], [(0, 1, .int 0), (1, 1, .int 4)], [], [])
noncomputable def ax_t_3 : List ax_ct := [ax_c_3_0]
noncomputable def ax_w_3 : ax_D := ([], [])
noncomputable def ax_p_3 : ax_po := (some (some (7, 15)), [], false, false, [])
noncomputable def ax_s_3 : ax_s9 := (49, ax_sumc ax_sp ax_c_3_0 1, ax_w_3, ax_p_3)
noncomputable def ax_l_3 : ax_Y := []
set_option maxRecDepth 1000000 in
theorem ax_k_3_0 : ax_cr9 ax_w_3 ax_l_3 ax_t_3 49 1 40000 ax_p_3 ax_c_3_0 = true := by decide +kernel
theorem ax_y_3 {X : Nat × (Nat → Int32)} : ax_Y1 X ax_sp ax_rf ax_s_3 := ax_meth9 (c := ax_c_3_0) (T := ax_t_3) ax_Yn ⟨ax_k_3_0, trivial⟩ List.mem_cons_self rfl
/-! .about ('about', 0) -/
noncomputable def ax_c_4_0 : ax_ct := (0, (2, [((-2147483648), 2147483647), ((-2147483648), 2147483647)], [], [], []), [], [some (.ref 0), some (.retAddr 0), some (.retAddr 1)], [(0, 1, .int 0), (0, 2, .int 0)], [], [])
noncomputable def ax_t_4 : List ax_ct := [ax_c_4_0]
noncomputable def ax_w_4 : ax_D := ([], [])
noncomputable def ax_p_4 : ax_po := (some (some ((-4), 520)), [], false, false, [])
noncomputable def ax_s_4 : ax_s9 := (107, ax_sumc ax_sp ax_c_4_0 2, ax_w_4, ax_p_4)
noncomputable def ax_l_4 : ax_Y := [ax_s_2, ax_s_3]
set_option maxRecDepth 1000000 in
theorem ax_k_4_0 : ax_cr9 ax_w_4 ax_l_4 ax_t_4 107 2 40000 ax_p_4 ax_c_4_0 = true := by decide +kernel
theorem ax_y_4 {X : Nat × (Nat → Int32)} : ax_Y1 X ax_sp ax_rf ax_s_4 := ax_meth9 (c := ax_c_4_0) (T := ax_t_4) (ax_Yc ax_y_2 (ax_Yc ax_y_3 ax_Yn)) ⟨ax_k_4_0, trivial⟩ List.mem_cons_self rfl
/-! Model.worthOf ((),) -/
noncomputable def ax_c_5_0 : ax_ct := (0, (2, [(0, 12), (0, 4)], [], [], []), [(244, .int 1, .retAddr 1)], [some (.ref 244), some (.retAddr 0)], [(0, 1, .int 0), (1, 244, .int 1)], [], [])
noncomputable def ax_t_5 : List ax_ct := [ax_c_5_0]
noncomputable def ax_w_5 : ax_D := ([], [])
noncomputable def ax_p_5 : ax_po := (some (some (7, 15)), [], false, false, [])
noncomputable def ax_s_5 : ax_s9 := (159, ax_sumc ax_sp ax_c_5_0 1, ax_w_5, ax_p_5)
noncomputable def ax_l_5 : ax_Y := []
set_option maxRecDepth 1000000 in
theorem ax_k_5_0 : ax_cr9 ax_w_5 ax_l_5 ax_t_5 159 1 40000 ax_p_5 ax_c_5_0 = true := by decide +kernel
theorem ax_y_5 {X : Nat × (Nat → Int32)} : ax_Y1 X ax_sp ax_rf ax_s_5 := ax_meth9 (c := ax_c_5_0) (T := ax_t_5) ax_Yn ⟨ax_k_5_0, trivial⟩ List.mem_cons_self rfl
/-! Model.diedIn ((),) -/
noncomputable def ax_c_6_0 : ax_ct := (0, (2, [(0, 12), (0, 11)], [], [], []), [(244, .int 1, .retAddr 1)], [some (.ref 244), some (.retAddr 0), none], [(0, 1, .int 0), (1, 244, .int 1)], [(false, .int 20000), (false, .int 0)], [])
noncomputable def ax_c_6_1 : ax_ct := (2, (3, [(0, 12), (0, 150), (0, 11)], [], [], []), [(244, .int 1, .retAddr 2)], [some (.ref 244), some (.retAddr 0), some (.retAddr 1)], [(0, 1, .int 0), (0, 2, .int 0), (1, 244, .int 1)], [(false, .int 9998), (true, .retAddr 1)], [])
noncomputable def ax_t_6 : List ax_ct := [ax_c_6_0, ax_c_6_1]
noncomputable def ax_w_6 : ax_D := ([], [])
noncomputable def ax_p_6 : ax_po := (some (some ((-4), 520)), [], false, false, [])
noncomputable def ax_s_6 : ax_s9 := (161, ax_sumc ax_sp ax_c_6_0 1, ax_w_6, ax_p_6)
noncomputable def ax_l_6 : ax_Y := []
set_option maxRecDepth 1000000 in
theorem ax_k_6_0 : ax_cr9 ax_w_6 ax_l_6 ax_t_6 161 1 40000 ax_p_6 ax_c_6_0 = true := by decide +kernel
set_option maxRecDepth 1000000 in
theorem ax_k_6_1 : ax_cr9 ax_w_6 ax_l_6 ax_t_6 161 1 40000 ax_p_6 ax_c_6_1 = true := by decide +kernel
theorem ax_y_6 {X : Nat × (Nat → Int32)} : ax_Y1 X ax_sp ax_rf ax_s_6 := ax_meth9 (c := ax_c_6_0) (T := ax_t_6) ax_Yn ⟨ax_k_6_0, ⟨ax_k_6_1, trivial⟩⟩ List.mem_cons_self rfl
/-! Model.hoursOf ((),) -/
noncomputable def ax_c_7_0 : ax_ct := (0, (2, [(0, 12), (0, 4)], [], [], []), [(244, .int 1, .retAddr 1)], [some (.ref 244), some (.retAddr 0)], [(0, 1, .int 0), (1, 244, .int 1)], [], [])
noncomputable def ax_t_7 : List ax_ct := [ax_c_7_0]
noncomputable def ax_w_7 : ax_D := ([], [])
noncomputable def ax_p_7 : ax_po := (some (some (5, 12)), [], false, false, [])
noncomputable def ax_s_7 : ax_s9 := (158, ax_sumc ax_sp ax_c_7_0 1, ax_w_7, ax_p_7)
noncomputable def ax_l_7 : ax_Y := []
set_option maxRecDepth 1000000 in
theorem ax_k_7_0 : ax_cr9 ax_w_7 ax_l_7 ax_t_7 158 1 40000 ax_p_7 ax_c_7_0 = true := by decide +kernel
theorem ax_y_7 {X : Nat × (Nat → Int32)} : ax_Y1 X ax_sp ax_rf ax_s_7 := ax_meth9 (c := ax_c_7_0) (T := ax_t_7) ax_Yn ⟨ax_k_7_0, trivial⟩ List.mem_cons_self rfl
/-! Model.about ('about', 0) -/
noncomputable def ax_c_8_0 : ax_ct := (0, (2, [((-2147483648), 2147483647), ((-2147483648), 2147483647)], [], [], []), [], [some (.ref 244), some (.retAddr 0), some (.retAddr 1)], [(0, 1, .int 0), (0, 2, .int 0)], [], [])
noncomputable def ax_t_8 : List ax_ct := [ax_c_8_0]
noncomputable def ax_w_8 : ax_D := ([], [])
noncomputable def ax_p_8 : ax_po := (some (some ((-4), 520)), [], false, false, [])
noncomputable def ax_s_8 : ax_s9 := (163, ax_sumc ax_sp ax_c_8_0 2, ax_w_8, ax_p_8)
noncomputable def ax_l_8 : ax_Y := [ax_s_7, ax_s_5, ax_s_6]
set_option maxRecDepth 1000000 in
theorem ax_k_8_0 : ax_cr9 ax_w_8 ax_l_8 ax_t_8 163 2 40000 ax_p_8 ax_c_8_0 = true := by decide +kernel
theorem ax_y_8 {X : Nat × (Nat → Int32)} : ax_Y1 X ax_sp ax_rf ax_s_8 := ax_meth9 (c := ax_c_8_0) (T := ax_t_8) (ax_Yc ax_y_7 (ax_Yc ax_y_5 (ax_Yc ax_y_6 ax_Yn))) ⟨ax_k_8_0, trivial⟩ List.mem_cons_self rfl
/-! .road ('road', 0) -/
noncomputable def ax_c_9_0 : ax_ct := (0, (3, [((-2147483648), 2147483647), ((-2147483648), 2147483647), ((-2147483648), 2147483647)], [], [], []), [], [some (.ref 0), some (.retAddr 0), some (.retAddr 1), some (.retAddr 2)], [(0, 1, .int 0), (0, 2, .int 0), (0, 3, .int 0)], [], [])
noncomputable def ax_t_9 : List ax_ct := [ax_c_9_0]
noncomputable def ax_w_9 : ax_D := ([], [(8, 13)])
noncomputable def ax_p_9 : ax_po := (some (some ((-1), 15)), [], false, false, [])
noncomputable def ax_s_9 : ax_s9 := (108, ax_sumc ax_sp ax_c_9_0 1, ax_w_9, ax_p_9)
noncomputable def ax_l_9 : ax_Y := []
set_option maxRecDepth 1000000 in
theorem ax_k_9_0 : ax_cr9 ax_w_9 ax_l_9 ax_t_9 108 1 40000 ax_p_9 ax_c_9_0 = true := by decide +kernel
theorem ax_y_9 {X : Nat × (Nat → Int32)} : ax_Y1 X ax_sp ax_rf ax_s_9 := ax_meth9 (c := ax_c_9_0) (T := ax_t_9) ax_Yn ⟨ax_k_9_0, trivial⟩ List.mem_cons_self rfl
/-! Model.road ('road', 0) -/
noncomputable def ax_c_10_0 : ax_ct := (0, (3, [((-2147483648), 2147483647), ((-2147483648), 2147483647), ((-2147483648), 2147483647)], [], [], []), [], [some (.ref 244), some (.retAddr 0), some (.retAddr 1), some (.retAddr 2), none], [(0, 1, .int 0), (0, 2, .int 0), (0, 3, .int 0)], [], [])
noncomputable def ax_t_10 : List ax_ct := [ax_c_10_0]
noncomputable def ax_w_10 : ax_D := ([], [(248, 248)])
noncomputable def ax_p_10 : ax_po := (some (some ((-1), 15)), [], false, false, [])
noncomputable def ax_s_10 : ax_s9 := (164, ax_sumc ax_sp ax_c_10_0 1, ax_w_10, ax_p_10)
noncomputable def ax_l_10 : ax_Y := []
set_option maxRecDepth 1000000 in
theorem ax_k_10_0 : ax_cr9 ax_w_10 ax_l_10 ax_t_10 164 1 40000 ax_p_10 ax_c_10_0 = true := by decide +kernel
theorem ax_y_10 {X : Nat × (Nat → Int32)} : ax_Y1 X ax_sp ax_rf ax_s_10 := ax_meth9 (c := ax_c_10_0) (T := ax_t_10) ax_Yn ⟨ax_k_10_0, trivial⟩ List.mem_cons_self rfl
/-! $Roads.nextTo ((),) -/
noncomputable def ax_c_11_0 : ax_ct := (0, (2, [((-2147483648), 2147483647), (0, 5)], [], [], []), [], [some (.ref 6), some (.retAddr 0), some (.retAddr 1), none, none], [(0, 1, .int 0), (0, 2, .int 0)], [(false, .int 20000), (false, .int 0)], [])
noncomputable def ax_c_11_1 : ax_ct := (5, (4, [(0, 6), ((-2147483648), 2147483647), ((-2147483648), 2147483647), (0, 5)], [], [], []), [], [some (.ref 6), some (.retAddr 0), some (.retAddr 1), some (.retAddr 2), some (.retAddr 3)], [(0, 1, .int 0), (0, 2, .int 0), (0, 3, .int 0), (0, 4, .int 0)], [(false, .int 9995), (true, .retAddr 3)], [])
noncomputable def ax_t_11 : List ax_ct := [ax_c_11_0, ax_c_11_1]
noncomputable def ax_w_11 : ax_D := ([], [])
noncomputable def ax_p_11 : ax_po := (some (some ((-2147483648), 2147483647)), [], false, false, [])
noncomputable def ax_s_11 : ax_s9 := (88, ax_sumc ax_sp ax_c_11_0 1, ax_w_11, ax_p_11)
noncomputable def ax_l_11 : ax_Y := []
set_option maxRecDepth 1000000 in
theorem ax_k_11_0 : ax_cr9 ax_w_11 ax_l_11 ax_t_11 88 1 40000 ax_p_11 ax_c_11_0 = true := by decide +kernel
set_option maxRecDepth 1000000 in
theorem ax_k_11_1 : ax_cr9 ax_w_11 ax_l_11 ax_t_11 88 1 40000 ax_p_11 ax_c_11_1 = true := by decide +kernel
theorem ax_y_11 {X : Nat × (Nat → Int32)} : ax_Y1 X ax_sp ax_rf ax_s_11 := ax_meth9 (c := ax_c_11_0) (T := ax_t_11) ax_Yn ⟨ax_k_11_0, ⟨ax_k_11_1, trivial⟩⟩ List.mem_cons_self rfl
