/-! $Folk.hoursOf ((),) -/
noncomputable def ax_c_2_0 : ax_ct := (0, (2, [(0, 12), (0, 11)], [], [], []), [(1, .int 4, .retAddr 1)], [some (.ref 1), some (.retAddr 0)], [(0, 1, .int 0), (1, 1, .int 4)], [], [])
noncomputable def ax_t_2 : List ax_ct := [ax_c_2_0]
noncomputable def ax_w_2 : ax_D := ([], [])
noncomputable def ax_p_2 : ax_po := (some (some (5, 12)), [], false, false, [])
noncomputable def ax_s_2 : ax_s9 := (48, ax_sumc ax_sp ax_c_2_0 1, ax_w_2, ax_p_2)
noncomputable def ax_l_2 : ax_Y := []
set_option maxRecDepth 1000000 in
theorem ax_k_2_0 : ax_cr9 ax_w_2 ax_l_2 ax_t_2 48 1 40000 ax_p_2 ax_c_2_0 = true := by decide +kernel
theorem ax_y_2 {X : Nat × (Nat → Int32)} : ax_Y1 X ax_sp ax_rf ax_s_2 := ax_meth9 (c := ax_c_2_0) (T := ax_t_2) ax_Yn ⟨ax_k_2_0, trivial⟩ List.mem_cons_self rfl
/-! $Folk.worthOf ((),) -/
noncomputable def ax_c_3_0 : ax_ct := (0, (2, [(0, 12), (0, 11)], [], [], []), [(1, .int 4, .retAddr 1)], [some (.ref 1), some (.retAddr 0)], [(0, 1, .int 0), (1, 1, .int 4)], [], [])
noncomputable def ax_t_3 : List ax_ct := [ax_c_3_0]
noncomputable def ax_w_3 : ax_D := ([], [])
noncomputable def ax_p_3 : ax_po := (some (some (7, 15)), [], false, false, [])
noncomputable def ax_s_3 : ax_s9 := (49, ax_sumc ax_sp ax_c_3_0 1, ax_w_3, ax_p_3)
noncomputable def ax_l_3 : ax_Y := []
set_option maxRecDepth 1000000 in
theorem ax_k_3_0 : ax_cr9 ax_w_3 ax_l_3 ax_t_3 49 1 40000 ax_p_3 ax_c_3_0 = true := by decide +kernel
theorem ax_y_3 {X : Nat × (Nat → Int32)} : ax_Y1 X ax_sp ax_rf ax_s_3 := ax_meth9 (c := ax_c_3_0) (T := ax_t_3) ax_Yn ⟨ax_k_3_0, trivial⟩ List.mem_cons_self rfl
/-! .about ('about', 0) -/
noncomputable def ax_c_4_0 : ax_ct := (0, (2, [((-2147483648), 2147483647), ((-2147483648), 2147483647)], [], [], []), [], [some (.ref 0), some (.retAddr 0), some (.retAddr 1)], [(0, 1, .int 0), (0, 2, .int 0)], [], [])
noncomputable def ax_t_4 : List ax_ct := [ax_c_4_0]
noncomputable def ax_w_4 : ax_D := ([], [])
noncomputable def ax_p_4 : ax_po := (some (some ((-4), 520)), [], false, false, [])
noncomputable def ax_s_4 : ax_s9 := (107, ax_sumc ax_sp ax_c_4_0 2, ax_w_4, ax_p_4)
noncomputable def ax_l_4 : ax_Y := [ax_s_2, ax_s_3]
set_option maxRecDepth 1000000 in
theorem ax_k_4_0 : ax_cr9 ax_w_4 ax_l_4 ax_t_4 107 2 40000 ax_p_4 ax_c_4_0 = true := by decide +kernel
theorem ax_y_4 {X : Nat × (Nat → Int32)} : ax_Y1 X ax_sp ax_rf ax_s_4 := ax_meth9 (c := ax_c_4_0) (T := ax_t_4) (ax_Yc ax_y_2 (ax_Yc ax_y_3 ax_Yn)) ⟨ax_k_4_0, trivial⟩ List.mem_cons_self rfl
/-! Model.worthOf ((),) -/
noncomputable def ax_c_5_0 : ax_ct := (0, (2, [(0, 12), (0, 4)], [], [], []), [(244, .int 1, .retAddr 1)], [some (.ref 244), some (.retAddr 0)], [(0, 1, .int 0), (1, 244, .int 1)], [], [])
noncomputable def ax_t_5 : List ax_ct := [ax_c_5_0]
noncomputable def ax_w_5 : ax_D := ([], [])
noncomputable def ax_p_5 : ax_po := (some (some (7, 15)), [], false, false, [])
noncomputable def ax_s_5 : ax_s9 := (159, ax_sumc ax_sp ax_c_5_0 1, ax_w_5, ax_p_5)
noncomputable def ax_l_5 : ax_Y := []
set_option maxRecDepth 1000000 in
theorem ax_k_5_0 : ax_cr9 ax_w_5 ax_l_5 ax_t_5 159 1 40000 ax_p_5 ax_c_5_0 = true := by decide +kernel
theorem ax_y_5 {X : Nat × (Nat → Int32)} : ax_Y1 X ax_sp ax_rf ax_s_5 := ax_meth9 (c := ax_c_5_0) (T := ax_t_5) ax_Yn ⟨ax_k_5_0, trivial⟩ List.mem_cons_self rfl
/-! Model.diedIn ((),) -/
noncomputable def ax_c_6_0 : ax_ct := (0, (2, [(0, 12), (0, 11)], [], [], []), [(244, .int 1, .retAddr 1)], [some (.ref 244), some (.retAddr 0), none], [(0, 1, .int 0), (1, 244, .int 1)], [(false, .int 20000), (false, .int 0)], [])
noncomputable def ax_c_6_1 : ax_ct := (2, (3, [(0, 12), (0, 150), (0, 11)], [], [], []), [(244, .int 1, .retAddr 2)], [some (.ref 244), some (.retAddr 0), some (.retAddr 1)], [(0, 1, .int 0), (0, 2, .int 0), (1, 244, .int 1)], [(false, .int 9998), (true, .retAddr 1)], [])
noncomputable def ax_t_6 : List ax_ct := [ax_c_6_0, ax_c_6_1]
noncomputable def ax_w_6 : ax_D := ([], [])
noncomputable def ax_p_6 : ax_po := (some (some ((-4), 520)), [], false, false, [])
noncomputable def ax_s_6 : ax_s9 := (161, ax_sumc ax_sp ax_c_6_0 1, ax_w_6, ax_p_6)
noncomputable def ax_l_6 : ax_Y := []
set_option maxRecDepth 1000000 in
theorem ax_k_6_0 : ax_cr9 ax_w_6 ax_l_6 ax_t_6 161 1 40000 ax_p_6 ax_c_6_0 = true := by decide +kernel
set_option maxRecDepth 1000000 in
theorem ax_k_6_1 : ax_cr9 ax_w_6 ax_l_6 ax_t_6 161 1 40000 ax_p_6 ax_c_6_1 = true := by decide +kernel
theorem ax_y_6 {X : Nat × (Nat → Int32)} : ax_Y1 X ax_sp ax_rf ax_s_6 := ax_meth9 (c := ax_c_6_0) (T := ax_t_6) ax_Yn ⟨ax_k_6_0, ⟨ax_k_6_1, trivial⟩⟩ List.mem_cons_self rfl
/-! Model.hoursOf ((),) -/
noncomputable def ax_c_7_0 : ax_ct := (0, (2, [(0, 12), (0, 4)], [], [], []), [(244, .int 1, .retAddr 1)], [some (.ref 244), some (.retAddr 0)], [(0, 1, .int 0), (1, 244, .int 1)], [], [])
noncomputable def ax_t_7 : List ax_ct := [ax_c_7_0]
noncomputable def ax_w_7 : ax_D := ([], [])
noncomputable def ax_p_7 : ax_po := (some (some (5, 12)), [], false, false, [])
noncomputable def ax_s_7 : ax_s9 := (158, ax_sumc ax_sp ax_c_7_0 1, ax_w_7, ax_p_7)
noncomputable def ax_l_7 : ax_Y := []
set_option maxRecDepth 1000000 in
theorem ax_k_7_0 : ax_cr9 ax_w_7 ax_l_7 ax_t_7 158 1 40000 ax_p_7 ax_c_7_0 = true := by decide +kernel
theorem ax_y_7 {X : Nat × (Nat → Int32)} : ax_Y1 X ax_sp ax_rf ax_s_7 := ax_meth9 (c := ax_c_7_0) (T := ax_t_7) ax_Yn ⟨ax_k_7_0, trivial⟩ List.mem_cons_self rfl
/-! Model.about ('about', 0) -/
noncomputable def ax_c_8_0 : ax_ct := (0, (2, [((-2147483648), 2147483647), ((-2147483648), 2147483647)], [], [], []), [], [some (.ref 244), some (.retAddr 0), some (.retAddr 1)], [(0, 1, .int 0), (0, 2, .int 0)], [], [])
noncomputable def ax_t_8 : List ax_ct := [ax_c_8_0]
noncomputable def ax_w_8 : ax_D := ([], [])
noncomputable def ax_p_8 : ax_po := (some (some ((-4), 520)), [], false, false, [])
noncomputable def ax_s_8 : ax_s9 := (163, ax_sumc ax_sp ax_c_8_0 2, ax_w_8, ax_p_8)
noncomputable def ax_l_8 : ax_Y := [ax_s_7, ax_s_5, ax_s_6]
set_option maxRecDepth 1000000 in
theorem ax_k_8_0 : ax_cr9 ax_w_8 ax_l_8 ax_t_8 163 2 40000 ax_p_8 ax_c_8_0 = true := by decide +kernel
theorem ax_y_8 {X : Nat × (Nat → Int32)} : ax_Y1 X ax_sp ax_rf ax_s_8 := ax_meth9 (c := ax_c_8_0) (T := ax_t_8) (ax_Yc ax_y_7 (ax_Yc ax_y_5 (ax_Yc ax_y_6 ax_Yn))) ⟨ax_k_8_0, trivial⟩ List.mem_cons_self rfl
/-! .road ('road', 0) -/
noncomputable def ax_c_9_0 : ax_ct := (0, (3, [((-2147483648), 2147483647), ((-2147483648), 2147483647), ((-2147483648), 2147483647)], [], [], []), [], [some (.ref 0), some (.retAddr 0), some (.retAddr 1), some (.retAddr 2)], [(0, 1, .int 0), (0, 2, .int 0), (0, 3, .int 0)], [], [])
noncomputable def ax_t_9 : List ax_ct := [ax_c_9_0]
noncomputable def ax_w_9 : ax_D := ([], [(8, 13)])
noncomputable def ax_p_9 : ax_po := (some (some ((-1), 15)), [], false, false, [])
noncomputable def ax_s_9 : ax_s9 := (108, ax_sumc ax_sp ax_c_9_0 1, ax_w_9, ax_p_9)
noncomputable def ax_l_9 : ax_Y := []
set_option maxRecDepth 1000000 in
theorem ax_k_9_0 : ax_cr9 ax_w_9 ax_l_9 ax_t_9 108 1 40000 ax_p_9 ax_c_9_0 = true := by decide +kernel
theorem ax_y_9 {X : Nat × (Nat → Int32)} : ax_Y1 X ax_sp ax_rf ax_s_9 := ax_meth9 (c := ax_c_9_0) (T := ax_t_9) ax_Yn ⟨ax_k_9_0, trivial⟩ List.mem_cons_self rfl
/-! Model.road ('road', 0) -/
noncomputable def ax_c_10_0 : ax_ct := (0, (3, [((-2147483648), 2147483647), ((-2147483648), 2147483647), ((-2147483648), 2147483647)], [], [], []), [], [some (.ref 244), some (.retAddr 0), some (.retAddr 1), some (.retAddr 2), none], [(0, 1, .int 0), (0, 2, .int 0), (0, 3, .int 0)], [], [])
noncomputable def ax_t_10 : List ax_ct := [ax_c_10_0]
noncomputable def ax_w_10 : ax_D := ([], [(248, 248)])
noncomputable def ax_p_10 : ax_po := (some (some ((-1), 15)), [], false, false, [])
noncomputable def ax_s_10 : ax_s9 := (164, ax_sumc ax_sp ax_c_10_0 1, ax_w_10, ax_p_10)
noncomputable def ax_l_10 : ax_Y := []
set_option maxRecDepth 1000000 in
theorem ax_k_10_0 : ax_cr9 ax_w_10 ax_l_10 ax_t_10 164 1 40000 ax_p_10 ax_c_10_0 = true := by decide +kernel
theorem ax_y_10 {X : Nat × (Nat → Int32)} : ax_Y1 X ax_sp ax_rf ax_s_10 := ax_meth9 (c := ax_c_10_0) (T := ax_t_10) ax_Yn ⟨ax_k_10_0, trivial⟩ List.mem_cons_self rfl
/-! $Roads.nextTo ((),) -/
noncomputable def ax_c_11_0 : ax_ct := (0, (2, [((-2147483648), 2147483647), (0, 5)], [], [], []), [], [some (.ref 6), some (.retAddr 0), some (.retAddr 1), none, none], [(0, 1, .int 0), (0, 2, .int 0)], [(false, .int 20000), (false, .int 0)], [])
noncomputable def ax_c_11_1 : ax_ct := (5, (4, [(0, 6), ((-2147483648), 2147483647), ((-2147483648), 2147483647), (0, 5)], [], [], []), [], [some (.ref 6), some (.retAddr 0), some (.retAddr 1), some (.retAddr 2), some (.retAddr 3)], [(0, 1, .int 0), (0, 2, .int 0), (0, 3, .int 0), (0, 4, .int 0)], [(false, .int 9995), (true, .retAddr 3)], [])
noncomputable def ax_t_11 : List ax_ct := [ax_c_11_0, ax_c_11_1]
noncomputable def ax_w_11 : ax_D := ([], [])
noncomputable def ax_p_11 : ax_po := (some (some ((-2147483648), 2147483647)), [], false, false, [])
noncomputable def ax_s_11 : ax_s9 := (88, ax_sumc ax_sp ax_c_11_0 1, ax_w_11, ax_p_11)
noncomputable def ax_l_11 : ax_Y := []
set_option maxRecDepth 1000000 in
theorem ax_k_11_0 : ax_cr9 ax_w_11 ax_l_11 ax_t_11 88 1 40000 ax_p_11 ax_c_11_0 = true := by decide +kernel
set_option maxRecDepth 1000000 in
theorem ax_k_11_1 : ax_cr9 ax_w_11 ax_l_11 ax_t_11 88 1 40000 ax_p_11 ax_c_11_1 = true := by decide +kernel
theorem ax_y_11 {X : Nat × (Nat → Int32)} : ax_Y1 X ax_sp ax_rf ax_s_11 := ax_meth9 (c := ax_c_11_0) (T := ax_t_11) ax_Yn ⟨ax_k_11_0, ⟨ax_k_11_1, trivial⟩⟩ List.mem_cons_self rfl
/-! $Roads.from ((),) -/
noncomputable def ax_c_12_0 : ax_ct := (0, (2, [((-2147483648), 2147483647), (0, 5)], [], [], []), [], [some (.ref 6), some (.retAddr 0), some (.retAddr 1), none, none, none], [(0, 1, .int 0), (0, 2, .int 0)], [(false, .int 20000), (false, .int 0), (false, .int 20000), (false, .int 0)], [])
noncomputable def ax_c_12_1 : ax_ct := (7, (4, [(1, 6), ((-2147483648), 2147483647), ((-2147483648), 2147483647), (0, 5)], [], [], []), [], [some (.ref 6), some (.retAddr 0), some (.retAddr 1), some (.retAddr 2), some (.retAddr 3), none], [(0, 1, .int 0), (0, 2, .int 0), (0, 3, .int 0), (0, 4, .int 0)], [(false, .int 9993), (true, .retAddr 3), (false, .int 20000), (false, .int 0)], [])
noncomputable def ax_c_12_2 : ax_ct := (17, (5, [(0, 6), (1, 5), ((-2147483648), 2147483647), ((-2147483648), 2147483647), (0, 5)], [], [], []), [], [some (.ref 6), some (.retAddr 0), some (.retAddr 1), some (.retAddr 2), some (.retAddr 3), some (.retAddr 4)], [(0, 1, .int 0), (0, 2, .int 0), (0, 3, .int 0), (0, 4, .int 0), (0, 5, .int 0)], [(false, .int 9993), (true, .retAddr 3), (false, .int 9983), (true, .retAddr 4)], [])
noncomputable def ax_t_12 : List ax_ct := [ax_c_12_0, ax_c_12_1, ax_c_12_2]
noncomputable def ax_w_12 : ax_D := ([], [])
noncomputable def ax_p_12 : ax_po := (some (some ((-2147483648), 2147483647)), [], false, false, [])
noncomputable def ax_s_12 : ax_s9 := (87, ax_sumc ax_sp ax_c_12_0 2, ax_w_12, ax_p_12)
noncomputable def ax_l_12 : ax_Y := [ax_s_11]
set_option maxRecDepth 1000000 in
theorem ax_k_12_0 : ax_cr9 ax_w_12 ax_l_12 ax_t_12 87 2 40000 ax_p_12 ax_c_12_0 = true := by decide +kernel
set_option maxRecDepth 1000000 in
theorem ax_k_12_1 : ax_cr9 ax_w_12 ax_l_12 ax_t_12 87 2 40000 ax_p_12 ax_c_12_1 = true := by decide +kernel
set_option maxRecDepth 1000000 in
theorem ax_k_12_2 : ax_cr9 ax_w_12 ax_l_12 ax_t_12 87 2 40000 ax_p_12 ax_c_12_2 = true := by decide +kernel
theorem ax_y_12 {X : Nat × (Nat → Int32)} : ax_Y1 X ax_sp ax_rf ax_s_12 := ax_meth9 (c := ax_c_12_0) (T := ax_t_12) (ax_Yc ax_y_11 ax_Yn) ⟨ax_k_12_0, ⟨ax_k_12_1, ⟨ax_k_12_2, trivial⟩⟩⟩ List.mem_cons_self rfl
/-! .reached ('reached', 0) -/
noncomputable def ax_c_13_0 : ax_ct := (0, (3, [((-2147483648), 2147483647), ((-2147483648), 2147483647), ((-2147483648), 2147483647)], [], [], []), [], [some (.ref 0), some (.retAddr 0), some (.retAddr 1), some (.retAddr 2)], [(0, 1, .int 0), (0, 2, .int 0), (0, 3, .int 0)], [], [])
noncomputable def ax_t_13 : List ax_ct := [ax_c_13_0]
noncomputable def ax_w_13 : ax_D := ([], [])
noncomputable def ax_p_13 : ax_po := (some (some ((-1), 1)), [], false, false, [])
noncomputable def ax_s_13 : ax_s9 := (109, ax_sumc ax_sp ax_c_13_0 3, ax_w_13, ax_p_13)
noncomputable def ax_l_13 : ax_Y := [ax_s_12]
set_option maxRecDepth 1000000 in
theorem ax_k_13_0 : ax_cr9 ax_w_13 ax_l_13 ax_t_13 109 3 40000 ax_p_13 ax_c_13_0 = true := by decide +kernel
theorem ax_y_13 {X : Nat × (Nat → Int32)} : ax_Y1 X ax_sp ax_rf ax_s_13 := ax_meth9 (c := ax_c_13_0) (T := ax_t_13) (ax_Yc ax_y_12 ax_Yn) ⟨ax_k_13_0, trivial⟩ List.mem_cons_self rfl
/-! Model.reachedFrom ((),) -/
noncomputable def ax_c_14_0 : ax_ct := (0, (2, [(0, 520), (0, 5)], [], [], []), [], [some (.ref 244), some (.retAddr 0), some (.retAddr 1), none, none, none], [(0, 1, .int 0), (0, 2, .int 0)], [(false, .int 20000), (false, .int 0), (false, .int 20000), (false, .int 0)], [])
noncomputable def ax_c_14_1 : ax_ct := (7, (4, [(0, 6), ((-2147483648), 2147483647), (0, 520), (0, 5)], [], [], []), [], [some (.ref 244), some (.retAddr 0), some (.retAddr 1), some (.retAddr 2), some (.retAddr 3), none], [(0, 1, .int 0), (0, 2, .int 0), (0, 3, .int 0), (0, 4, .int 0)], [(false, .int 9993), (true, .retAddr 3), (false, .int 20000), (false, .int 0)], [])
noncomputable def ax_c_14_2 : ax_ct := (17, (5, [(0, 36), (0, 5), ((-2147483648), 2147483647), (0, 520), (0, 5)], [], [], []), [], [some (.ref 244), some (.retAddr 0), some (.retAddr 1), some (.retAddr 2), some (.retAddr 3), some (.retAddr 4)], [(0, 1, .int 0), (0, 2, .int 0), (0, 3, .int 0), (0, 4, .int 0), (0, 5, .int 0)], [(false, .int 9993), (true, .retAddr 3), (false, .int 9983), (true, .retAddr 4)], [])
noncomputable def ax_t_14 : List ax_ct := [ax_c_14_0, ax_c_14_1, ax_c_14_2]
noncomputable def ax_w_14 : ax_D := ([], [])
noncomputable def ax_p_14 : ax_po := (some (some ((-2147483648), 2147483647)), [], false, false, [])
noncomputable def ax_s_14 : ax_s9 := (165, ax_sumc ax_sp ax_c_14_0 1, ax_w_14, ax_p_14)
noncomputable def ax_l_14 : ax_Y := []
set_option maxRecDepth 1000000 in
theorem ax_k_14_0 : ax_cr9 ax_w_14 ax_l_14 ax_t_14 165 1 40000 ax_p_14 ax_c_14_0 = true := by decide +kernel
set_option maxRecDepth 1000000 in
theorem ax_k_14_1 : ax_cr9 ax_w_14 ax_l_14 ax_t_14 165 1 40000 ax_p_14 ax_c_14_1 = true := by decide +kernel
set_option maxRecDepth 1000000 in
theorem ax_k_14_2 : ax_cr9 ax_w_14 ax_l_14 ax_t_14 165 1 40000 ax_p_14 ax_c_14_2 = true := by decide +kernel
theorem ax_y_14 {X : Nat × (Nat → Int32)} : ax_Y1 X ax_sp ax_rf ax_s_14 := ax_meth9 (c := ax_c_14_0) (T := ax_t_14) ax_Yn ⟨ax_k_14_0, ⟨ax_k_14_1, ⟨ax_k_14_2, trivial⟩⟩⟩ List.mem_cons_self rfl
/-! Model.reached ('reached', 0) -/
noncomputable def ax_c_15_0 : ax_ct := (0, (3, [((-2147483648), 2147483647), ((-2147483648), 2147483647), ((-2147483648), 2147483647)], [], [], []), [], [some (.ref 244), some (.retAddr 0), some (.retAddr 1), some (.retAddr 2)], [(0, 1, .int 0), (0, 2, .int 0), (0, 3, .int 0)], [], [])
noncomputable def ax_t_15 : List ax_ct := [ax_c_15_0]
noncomputable def ax_w_15 : ax_D := ([], [])
noncomputable def ax_p_15 : ax_po := (some (some ((-1), 1)), [], false, false, [])
noncomputable def ax_s_15 : ax_s9 := (166, ax_sumc ax_sp ax_c_15_0 2, ax_w_15, ax_p_15)
noncomputable def ax_l_15 : ax_Y := [ax_s_14]
set_option maxRecDepth 1000000 in
theorem ax_k_15_0 : ax_cr9 ax_w_15 ax_l_15 ax_t_15 166 2 40000 ax_p_15 ax_c_15_0 = true := by decide +kernel
theorem ax_y_15 {X : Nat × (Nat → Int32)} : ax_Y1 X ax_sp ax_rf ax_s_15 := ax_meth9 (c := ax_c_15_0) (T := ax_t_15) (ax_Yc ax_y_14 ax_Yn) ⟨ax_k_15_0, trivial⟩ List.mem_cons_self rfl
/-! .week ('week', 0) -/
noncomputable def ax_c_16_0 : ax_ct := (0, (1, [((-2147483648), 2147483647)], [], [], []), [], [some (.ref 0), some (.retAddr 0), none], [(0, 1, .int 0)], [], [])
noncomputable def ax_t_16 : List ax_ct := [ax_c_16_0]
noncomputable def ax_w_16 : ax_D := ([(14, 17)], [])
noncomputable def ax_p_16 : ax_po := (some (some ((-1), 520)), [], false, false, [])
noncomputable def ax_s_16 : ax_s9 := (110, ax_sumc ax_sp ax_c_16_0 1, ax_w_16, ax_p_16)
noncomputable def ax_l_16 : ax_Y := []
set_option maxRecDepth 1000000 in
theorem ax_k_16_0 : ax_cr9 ax_w_16 ax_l_16 ax_t_16 110 1 40000 ax_p_16 ax_c_16_0 = true := by decide +kernel
theorem ax_y_16 {X : Nat × (Nat → Int32)} : ax_Y1 X ax_sp ax_rf ax_s_16 := ax_meth9 (c := ax_c_16_0) (T := ax_t_16) ax_Yn ⟨ax_k_16_0, trivial⟩ List.mem_cons_self rfl
/-! Model.week ('week', 0) -/
noncomputable def ax_c_17_0 : ax_ct := (0, (1, [((-2147483648), 2147483647)], [], [], []), [], [some (.ref 244), some (.retAddr 0), none], [(0, 1, .int 0)], [], [])
noncomputable def ax_t_17 : List ax_ct := [ax_c_17_0]
noncomputable def ax_w_17 : ax_D := ([(244, 2)], [])
noncomputable def ax_p_17 : ax_po := (some (some ((-1), 520)), [], false, false, [])
noncomputable def ax_s_17 : ax_s9 := (167, ax_sumc ax_sp ax_c_17_0 1, ax_w_17, ax_p_17)
noncomputable def ax_l_17 : ax_Y := []
set_option maxRecDepth 1000000 in
theorem ax_k_17_0 : ax_cr9 ax_w_17 ax_l_17 ax_t_17 167 1 40000 ax_p_17 ax_c_17_0 = true := by decide +kernel
theorem ax_y_17 {X : Nat × (Nat → Int32)} : ax_Y1 X ax_sp ax_rf ax_s_17 := ax_meth9 (c := ax_c_17_0) (T := ax_t_17) ax_Yn ⟨ax_k_17_0, trivial⟩ List.mem_cons_self rfl
/-! $Reader.expect ((236,),) -/
noncomputable def ax_c_18_0 : ax_ct := (0, (2, [(236, 243), (36, 100)], [], [], []), [(15, .int 0, .float 1)], [some (.ref 15), some (.retAddr 0)], [(0, 1, .int 0), (1, 15, .int 0)], [], [])
noncomputable def ax_t_18 : List ax_ct := [ax_c_18_0]
noncomputable def ax_w_18 : ax_D := ([(15, 2), (15, 3)], [])
noncomputable def ax_p_18 : ax_po := (none, [], false, false, [])
noncomputable def ax_s_18 : ax_s9 := (69, ax_sumc ax_sp ax_c_18_0 1, ax_w_18, ax_p_18)
noncomputable def ax_l_18 : ax_Y := []
set_option maxRecDepth 1000000 in
theorem ax_k_18_0 : ax_cr9 ax_w_18 ax_l_18 ax_t_18 69 1 40000 ax_p_18 ax_c_18_0 = true := by decide +kernel
theorem ax_y_18 {X : Nat × (Nat → Int32)} : ax_Y1 X ax_sp ax_rf ax_s_18 := ax_meth9 (c := ax_c_18_0) (T := ax_t_18) ax_Yn ⟨ax_k_18_0, trivial⟩ List.mem_cons_self rfl
/-! $Reader.atom ((8, 236),) -/
noncomputable def ax_c_19_0 : ax_ct := (0, (1, [(236, 243)], [], [], []), [(15, .int 0, .float 0)], [some (.ref 15), some (.int 8), none, none], [(1, 15, .int 0)], [], [])
noncomputable def ax_t_19 : List ax_ct := [ax_c_19_0]
noncomputable def ax_w_19 : ax_D := ([(15, 2), (15, 3)], [])
noncomputable def ax_p_19 : ax_po := (some (some ((-2147483648), 2147483647)), [], false, false, [])
noncomputable def ax_s_19 : ax_s9 := (73, ax_sumc ax_sp ax_c_19_0 2, ax_w_19, ax_p_19)
noncomputable def ax_l_19 : ax_Y := []
set_option maxRecDepth 1000000 in
theorem ax_k_19_0 : ax_cr9 ax_w_19 ax_l_19 ax_t_19 73 2 40000 ax_p_19 ax_c_19_0 = true := by decide +kernel
theorem ax_y_19 {X : Nat × (Nat → Int32)} : ax_Y1 X ax_sp ax_rf ax_s_19 := ax_meth9 (c := ax_c_19_0) (T := ax_t_19) ax_Yn ⟨ax_k_19_0, trivial⟩ List.mem_cons_self rfl
/-! $Reader.product ((8, 236),) -/
noncomputable def ax_c_20_0 : ax_ct := (0, (1, [(236, 243)], [], [], []), [(15, .int 0, .float 0)], [some (.ref 15), some (.int 8), none, none, none, none], [(1, 15, .int 0)], [(false, .int 20000), (false, .int 0)], [])
noncomputable def ax_c_20_1 : ax_ct := (8, (4, [(236, 243), (0, 80), ((-2147483648), 2147483647), (8, 8)], [], [], []), [(15, .int 0, .float 3)], [some (.ref 15), some (.retAddr 0), some (.retAddr 1), some (.retAddr 2), none, none], [(0, 1, .int 0), (0, 2, .int 0), (0, 3, .int 0), (1, 15, .int 0)], [(false, .int 9992), (true, .retAddr 2)], [])
noncomputable def ax_t_20 : List ax_ct := [ax_c_20_0, ax_c_20_1]
noncomputable def ax_w_20 : ax_D := ([(15, 2), (15, 3)], [])
noncomputable def ax_p_20 : ax_po := (some (some ((-2147483648), 2147483647)), [], false, false, [])
noncomputable def ax_s_20 : ax_s9 := (71, ax_sumc ax_sp ax_c_20_0 3, ax_w_20, ax_p_20)
noncomputable def ax_l_20 : ax_Y := [ax_s_19]
set_option maxRecDepth 1000000 in
theorem ax_k_20_0 : ax_cr9 ax_w_20 ax_l_20 ax_t_20 71 3 40000 ax_p_20 ax_c_20_0 = true := by decide +kernel
set_option maxRecDepth 1000000 in
theorem ax_k_20_1 : ax_cr9 ax_w_20 ax_l_20 ax_t_20 71 3 40000 ax_p_20 ax_c_20_1 = true := by decide +kernel
theorem ax_y_20 {X : Nat × (Nat → Int32)} : ax_Y1 X ax_sp ax_rf ax_s_20 := ax_meth9 (c := ax_c_20_0) (T := ax_t_20) (ax_Yc ax_y_19 ax_Yn) ⟨ax_k_20_0, ⟨ax_k_20_1, trivial⟩⟩ List.mem_cons_self rfl
/-! $Reader.sum ((8, 236),) -/
noncomputable def ax_c_21_0 : ax_ct := (0, (1, [(236, 243)], [], [], []), [(15, .int 0, .float 0)], [some (.ref 15), some (.int 8), none, none, none, none], [(1, 15, .int 0)], [(false, .int 20000), (false, .int 0)], [])
noncomputable def ax_c_21_1 : ax_ct := (8, (4, [(236, 243), (0, 80), ((-2147483648), 2147483647), (8, 8)], [], [], []), [(15, .int 0, .float 3)], [some (.ref 15), some (.retAddr 0), some (.retAddr 1), some (.retAddr 2), none, none], [(0, 1, .int 0), (0, 2, .int 0), (0, 3, .int 0), (1, 15, .int 0)], [(false, .int 9992), (true, .retAddr 2)], [])
noncomputable def ax_t_21 : List ax_ct := [ax_c_21_0, ax_c_21_1]
noncomputable def ax_w_21 : ax_D := ([(15, 2), (15, 3)], [])
noncomputable def ax_p_21 : ax_po := (some (some ((-2147483648), 2147483647)), [], false, false, [])
noncomputable def ax_s_21 : ax_s9 := (70, ax_sumc ax_sp ax_c_21_0 4, ax_w_21, ax_p_21)
noncomputable def ax_l_21 : ax_Y := [ax_s_20]
set_option maxRecDepth 1000000 in
theorem ax_k_21_0 : ax_cr9 ax_w_21 ax_l_21 ax_t_21 70 4 40000 ax_p_21 ax_c_21_0 = true := by decide +kernel
set_option maxRecDepth 1000000 in
theorem ax_k_21_1 : ax_cr9 ax_w_21 ax_l_21 ax_t_21 70 4 40000 ax_p_21 ax_c_21_1 = true := by decide +kernel
theorem ax_y_21 {X : Nat × (Nat → Int32)} : ax_Y1 X ax_sp ax_rf ax_s_21 := ax_meth9 (c := ax_c_21_0) (T := ax_t_21) (ax_Yc ax_y_20 ax_Yn) ⟨ax_k_21_0, ⟨ax_k_21_1, trivial⟩⟩ List.mem_cons_self rfl
/-! $Reader.choice ((8, 236),) -/
noncomputable def ax_c_22_0 : ax_ct := (0, (1, [(236, 243)], [], [], []), [(15, .int 0, .float 0)], [some (.ref 15), some (.int 8), none, none, none, none], [(1, 15, .int 0)], [], [])
noncomputable def ax_t_22 : List ax_ct := [ax_c_22_0]
noncomputable def ax_w_22 : ax_D := ([(15, 2), (15, 3)], [])
noncomputable def ax_p_22 : ax_po := (some (some ((-2147483648), 2147483647)), [], false, false, [])
noncomputable def ax_s_22 : ax_s9 := (74, ax_sumc ax_sp ax_c_22_0 5, ax_w_22, ax_p_22)
noncomputable def ax_l_22 : ax_Y := [ax_s_18, ax_s_21]
set_option maxRecDepth 1000000 in
theorem ax_k_22_0 : ax_cr9 ax_w_22 ax_l_22 ax_t_22 74 5 40000 ax_p_22 ax_c_22_0 = true := by decide +kernel
theorem ax_y_22 {X : Nat × (Nat → Int32)} : ax_Y1 X ax_sp ax_rf ax_s_22 := ax_meth9 (c := ax_c_22_0) (T := ax_t_22) (ax_Yc ax_y_18 (ax_Yc ax_y_21 ax_Yn)) ⟨ax_k_22_0, trivial⟩ List.mem_cons_self rfl
/-! $Reader.atom ((7, 236),) -/
noncomputable def ax_c_23_0 : ax_ct := (0, (1, [(236, 243)], [], [], []), [(15, .int 0, .float 0)], [some (.ref 15), some (.int 7), none, none], [(1, 15, .int 0)], [], [])
noncomputable def ax_t_23 : List ax_ct := [ax_c_23_0]
noncomputable def ax_w_23 : ax_D := ([(15, 2), (15, 3)], [])
noncomputable def ax_p_23 : ax_po := (some (some ((-2147483648), 2147483647)), [], false, false, [])
noncomputable def ax_s_23 : ax_s9 := (73, ax_sumc ax_sp ax_c_23_0 6, ax_w_23, ax_p_23)
noncomputable def ax_l_23 : ax_Y := [ax_s_18, ax_s_21, ax_s_22]
set_option maxRecDepth 1000000 in
theorem ax_k_23_0 : ax_cr9 ax_w_23 ax_l_23 ax_t_23 73 6 40000 ax_p_23 ax_c_23_0 = true := by decide +kernel
theorem ax_y_23 {X : Nat × (Nat → Int32)} : ax_Y1 X ax_sp ax_rf ax_s_23 := ax_meth9 (c := ax_c_23_0) (T := ax_t_23) (ax_Yc ax_y_18 (ax_Yc ax_y_21 (ax_Yc ax_y_22 ax_Yn))) ⟨ax_k_23_0, trivial⟩ List.mem_cons_self rfl
/-! $Reader.product ((7, 236),) -/
noncomputable def ax_c_24_0 : ax_ct := (0, (1, [(236, 243)], [], [], []), [(15, .int 0, .float 0)], [some (.ref 15), some (.int 7), none, none, none, none], [(1, 15, .int 0)], [(false, .int 20000), (false, .int 0)], [])
noncomputable def ax_c_24_1 : ax_ct := (8, (4, [(236, 243), (0, 80), ((-2147483648), 2147483647), (7, 7)], [], [], []), [(15, .int 0, .float 3)], [some (.ref 15), some (.retAddr 0), some (.retAddr 1), some (.retAddr 2), none, none], [(0, 1, .int 0), (0, 2, .int 0), (0, 3, .int 0), (1, 15, .int 0)], [(false, .int 9992), (true, .retAddr 2)], [])
noncomputable def ax_t_24 : List ax_ct := [ax_c_24_0, ax_c_24_1]
noncomputable def ax_w_24 : ax_D := ([(15, 2), (15, 3)], [])
noncomputable def ax_p_24 : ax_po := (some (some ((-2147483648), 2147483647)), [], false, false, [])
noncomputable def ax_s_24 : ax_s9 := (71, ax_sumc ax_sp ax_c_24_0 7, ax_w_24, ax_p_24)
noncomputable def ax_l_24 : ax_Y := [ax_s_23]
set_option maxRecDepth 1000000 in
theorem ax_k_24_0 : ax_cr9 ax_w_24 ax_l_24 ax_t_24 71 7 40000 ax_p_24 ax_c_24_0 = true := by decide +kernel
set_option maxRecDepth 1000000 in
theorem ax_k_24_1 : ax_cr9 ax_w_24 ax_l_24 ax_t_24 71 7 40000 ax_p_24 ax_c_24_1 = true := by decide +kernel
theorem ax_y_24 {X : Nat × (Nat → Int32)} : ax_Y1 X ax_sp ax_rf ax_s_24 := ax_meth9 (c := ax_c_24_0) (T := ax_t_24) (ax_Yc ax_y_23 ax_Yn) ⟨ax_k_24_0, ⟨ax_k_24_1, trivial⟩⟩ List.mem_cons_self rfl
/-! $Reader.sum ((7, 236),) -/
noncomputable def ax_c_25_0 : ax_ct := (0, (1, [(236, 243)], [], [], []), [(15, .int 0, .float 0)], [some (.ref 15), some (.int 7), none, none, none, none], [(1, 15, .int 0)], [(false, .int 20000), (false, .int 0)], [])
noncomputable def ax_c_25_1 : ax_ct := (8, (4, [(236, 243), (0, 80), ((-2147483648), 2147483647), (7, 7)], [], [], []), [(15, .int 0, .float 3)], [some (.ref 15), some (.retAddr 0), some (.retAddr 1), some (.retAddr 2), none, none], [(0, 1, .int 0), (0, 2, .int 0), (0, 3, .int 0), (1, 15, .int 0)], [(false, .int 9992), (true, .retAddr 2)], [])
noncomputable def ax_t_25 : List ax_ct := [ax_c_25_0, ax_c_25_1]
noncomputable def ax_w_25 : ax_D := ([(15, 2), (15, 3)], [])
noncomputable def ax_p_25 : ax_po := (some (some ((-2147483648), 2147483647)), [], false, false, [])
noncomputable def ax_s_25 : ax_s9 := (70, ax_sumc ax_sp ax_c_25_0 8, ax_w_25, ax_p_25)
noncomputable def ax_l_25 : ax_Y := [ax_s_24]
set_option maxRecDepth 1000000 in
theorem ax_k_25_0 : ax_cr9 ax_w_25 ax_l_25 ax_t_25 70 8 40000 ax_p_25 ax_c_25_0 = true := by decide +kernel
set_option maxRecDepth 1000000 in
theorem ax_k_25_1 : ax_cr9 ax_w_25 ax_l_25 ax_t_25 70 8 40000 ax_p_25 ax_c_25_1 = true := by decide +kernel
theorem ax_y_25 {X : Nat × (Nat → Int32)} : ax_Y1 X ax_sp ax_rf ax_s_25 := ax_meth9 (c := ax_c_25_0) (T := ax_t_25) (ax_Yc ax_y_24 ax_Yn) ⟨ax_k_25_0, ⟨ax_k_25_1, trivial⟩⟩ List.mem_cons_self rfl
/-! $Reader.choice ((7, 236),) -/
noncomputable def ax_c_26_0 : ax_ct := (0, (1, [(236, 243)], [], [], []), [(15, .int 0, .float 0)], [some (.ref 15), some (.int 7), none, none, none, none], [(1, 15, .int 0)], [], [])
noncomputable def ax_t_26 : List ax_ct := [ax_c_26_0]
noncomputable def ax_w_26 : ax_D := ([(15, 2), (15, 3)], [])
noncomputable def ax_p_26 : ax_po := (some (some ((-2147483648), 2147483647)), [], false, false, [])
noncomputable def ax_s_26 : ax_s9 := (74, ax_sumc ax_sp ax_c_26_0 9, ax_w_26, ax_p_26)
noncomputable def ax_l_26 : ax_Y := [ax_s_18, ax_s_25]
set_option maxRecDepth 1000000 in
theorem ax_k_26_0 : ax_cr9 ax_w_26 ax_l_26 ax_t_26 74 9 40000 ax_p_26 ax_c_26_0 = true := by decide +kernel
theorem ax_y_26 {X : Nat × (Nat → Int32)} : ax_Y1 X ax_sp ax_rf ax_s_26 := ax_meth9 (c := ax_c_26_0) (T := ax_t_26) (ax_Yc ax_y_18 (ax_Yc ax_y_25 ax_Yn)) ⟨ax_k_26_0, trivial⟩ List.mem_cons_self rfl
/-! $Reader.atom ((6, 236),) -/
noncomputable def ax_c_27_0 : ax_ct := (0, (1, [(236, 243)], [], [], []), [(15, .int 0, .float 0)], [some (.ref 15), some (.int 6), none, none], [(1, 15, .int 0)], [], [])
noncomputable def ax_t_27 : List ax_ct := [ax_c_27_0]
noncomputable def ax_w_27 : ax_D := ([(15, 2), (15, 3)], [])
noncomputable def ax_p_27 : ax_po := (some (some ((-2147483648), 2147483647)), [], false, false, [])
noncomputable def ax_s_27 : ax_s9 := (73, ax_sumc ax_sp ax_c_27_0 10, ax_w_27, ax_p_27)
noncomputable def ax_l_27 : ax_Y := [ax_s_18, ax_s_25, ax_s_26]
set_option maxRecDepth 1000000 in
theorem ax_k_27_0 : ax_cr9 ax_w_27 ax_l_27 ax_t_27 73 10 40000 ax_p_27 ax_c_27_0 = true := by decide +kernel
theorem ax_y_27 {X : Nat × (Nat → Int32)} : ax_Y1 X ax_sp ax_rf ax_s_27 := ax_meth9 (c := ax_c_27_0) (T := ax_t_27) (ax_Yc ax_y_18 (ax_Yc ax_y_25 (ax_Yc ax_y_26 ax_Yn))) ⟨ax_k_27_0, trivial⟩ List.mem_cons_self rfl
/-! $Reader.product ((6, 236),) -/
noncomputable def ax_c_28_0 : ax_ct := (0, (1, [(236, 243)], [], [], []), [(15, .int 0, .float 0)], [some (.ref 15), some (.int 6), none, none, none, none], [(1, 15, .int 0)], [(false, .int 20000), (false, .int 0)], [])
noncomputable def ax_c_28_1 : ax_ct := (8, (4, [(236, 243), (0, 80), ((-2147483648), 2147483647), (6, 6)], [], [], []), [(15, .int 0, .float 3)], [some (.ref 15), some (.retAddr 0), some (.retAddr 1), some (.retAddr 2), none, none], [(0, 1, .int 0), (0, 2, .int 0), (0, 3, .int 0), (1, 15, .int 0)], [(false, .int 9992), (true, .retAddr 2)], [])
noncomputable def ax_t_28 : List ax_ct := [ax_c_28_0, ax_c_28_1]
noncomputable def ax_w_28 : ax_D := ([(15, 2), (15, 3)], [])
noncomputable def ax_p_28 : ax_po := (some (some ((-2147483648), 2147483647)), [], false, false, [])
noncomputable def ax_s_28 : ax_s9 := (71, ax_sumc ax_sp ax_c_28_0 11, ax_w_28, ax_p_28)
noncomputable def ax_l_28 : ax_Y := [ax_s_27]
set_option maxRecDepth 1000000 in
theorem ax_k_28_0 : ax_cr9 ax_w_28 ax_l_28 ax_t_28 71 11 40000 ax_p_28 ax_c_28_0 = true := by decide +kernel
set_option maxRecDepth 1000000 in
theorem ax_k_28_1 : ax_cr9 ax_w_28 ax_l_28 ax_t_28 71 11 40000 ax_p_28 ax_c_28_1 = true := by decide +kernel
theorem ax_y_28 {X : Nat × (Nat → Int32)} : ax_Y1 X ax_sp ax_rf ax_s_28 := ax_meth9 (c := ax_c_28_0) (T := ax_t_28) (ax_Yc ax_y_27 ax_Yn) ⟨ax_k_28_0, ⟨ax_k_28_1, trivial⟩⟩ List.mem_cons_self rfl
/-! $Reader.sum ((6, 236),) -/
noncomputable def ax_c_29_0 : ax_ct := (0, (1, [(236, 243)], [], [], []), [(15, .int 0, .float 0)], [some (.ref 15), some (.int 6), none, none, none, none], [(1, 15, .int 0)], [(false, .int 20000), (false, .int 0)], [])
noncomputable def ax_c_29_1 : ax_ct := (8, (4, [(236, 243), (0, 80), ((-2147483648), 2147483647), (6, 6)], [], [], []), [(15, .int 0, .float 3)], [some (.ref 15), some (.retAddr 0), some (.retAddr 1), some (.retAddr 2), none, none], [(0, 1, .int 0), (0, 2, .int 0), (0, 3, .int 0), (1, 15, .int 0)], [(false, .int 9992), (true, .retAddr 2)], [])
noncomputable def ax_t_29 : List ax_ct := [ax_c_29_0, ax_c_29_1]
noncomputable def ax_w_29 : ax_D := ([(15, 2), (15, 3)], [])
noncomputable def ax_p_29 : ax_po := (some (some ((-2147483648), 2147483647)), [], false, false, [])
noncomputable def ax_s_29 : ax_s9 := (70, ax_sumc ax_sp ax_c_29_0 12, ax_w_29, ax_p_29)
noncomputable def ax_l_29 : ax_Y := [ax_s_28]
set_option maxRecDepth 1000000 in
theorem ax_k_29_0 : ax_cr9 ax_w_29 ax_l_29 ax_t_29 70 12 40000 ax_p_29 ax_c_29_0 = true := by decide +kernel
set_option maxRecDepth 1000000 in
theorem ax_k_29_1 : ax_cr9 ax_w_29 ax_l_29 ax_t_29 70 12 40000 ax_p_29 ax_c_29_1 = true := by decide +kernel
theorem ax_y_29 {X : Nat × (Nat → Int32)} : ax_Y1 X ax_sp ax_rf ax_s_29 := ax_meth9 (c := ax_c_29_0) (T := ax_t_29) (ax_Yc ax_y_28 ax_Yn) ⟨ax_k_29_0, ⟨ax_k_29_1, trivial⟩⟩ List.mem_cons_self rfl
/-! $Reader.choice ((6, 236),) -/
noncomputable def ax_c_30_0 : ax_ct := (0, (1, [(236, 243)], [], [], []), [(15, .int 0, .float 0)], [some (.ref 15), some (.int 6), none, none, none, none], [(1, 15, .int 0)], [], [])
noncomputable def ax_t_30 : List ax_ct := [ax_c_30_0]
noncomputable def ax_w_30 : ax_D := ([(15, 2), (15, 3)], [])
noncomputable def ax_p_30 : ax_po := (some (some ((-2147483648), 2147483647)), [], false, false, [])
noncomputable def ax_s_30 : ax_s9 := (74, ax_sumc ax_sp ax_c_30_0 13, ax_w_30, ax_p_30)
noncomputable def ax_l_30 : ax_Y := [ax_s_18, ax_s_29]
set_option maxRecDepth 1000000 in
theorem ax_k_30_0 : ax_cr9 ax_w_30 ax_l_30 ax_t_30 74 13 40000 ax_p_30 ax_c_30_0 = true := by decide +kernel
theorem ax_y_30 {X : Nat × (Nat → Int32)} : ax_Y1 X ax_sp ax_rf ax_s_30 := ax_meth9 (c := ax_c_30_0) (T := ax_t_30) (ax_Yc ax_y_18 (ax_Yc ax_y_29 ax_Yn)) ⟨ax_k_30_0, trivial⟩ List.mem_cons_self rfl
/-! $Reader.atom ((5, 236),) -/
noncomputable def ax_c_31_0 : ax_ct := (0, (1, [(236, 243)], [], [], []), [(15, .int 0, .float 0)], [some (.ref 15), some (.int 5), none, none], [(1, 15, .int 0)], [], [])
noncomputable def ax_t_31 : List ax_ct := [ax_c_31_0]
noncomputable def ax_w_31 : ax_D := ([(15, 2), (15, 3)], [])
noncomputable def ax_p_31 : ax_po := (some (some ((-2147483648), 2147483647)), [], false, false, [])
noncomputable def ax_s_31 : ax_s9 := (73, ax_sumc ax_sp ax_c_31_0 14, ax_w_31, ax_p_31)
noncomputable def ax_l_31 : ax_Y := [ax_s_18, ax_s_29, ax_s_30]
set_option maxRecDepth 1000000 in
theorem ax_k_31_0 : ax_cr9 ax_w_31 ax_l_31 ax_t_31 73 14 40000 ax_p_31 ax_c_31_0 = true := by decide +kernel
theorem ax_y_31 {X : Nat × (Nat → Int32)} : ax_Y1 X ax_sp ax_rf ax_s_31 := ax_meth9 (c := ax_c_31_0) (T := ax_t_31) (ax_Yc ax_y_18 (ax_Yc ax_y_29 (ax_Yc ax_y_30 ax_Yn))) ⟨ax_k_31_0, trivial⟩ List.mem_cons_self rfl
/-! $Reader.product ((5, 236),) -/
noncomputable def ax_c_32_0 : ax_ct := (0, (1, [(236, 243)], [], [], []), [(15, .int 0, .float 0)], [some (.ref 15), some (.int 5), none, none, none, none], [(1, 15, .int 0)], [(false, .int 20000), (false, .int 0)], [])
noncomputable def ax_c_32_1 : ax_ct := (8, (4, [(236, 243), (0, 80), ((-2147483648), 2147483647), (5, 5)], [], [], []), [(15, .int 0, .float 3)], [some (.ref 15), some (.retAddr 0), some (.retAddr 1), some (.retAddr 2), none, none], [(0, 1, .int 0), (0, 2, .int 0), (0, 3, .int 0), (1, 15, .int 0)], [(false, .int 9992), (true, .retAddr 2)], [])
noncomputable def ax_t_32 : List ax_ct := [ax_c_32_0, ax_c_32_1]
noncomputable def ax_w_32 : ax_D := ([(15, 2), (15, 3)], [])
noncomputable def ax_p_32 : ax_po := (some (some ((-2147483648), 2147483647)), [], false, false, [])
noncomputable def ax_s_32 : ax_s9 := (71, ax_sumc ax_sp ax_c_32_0 15, ax_w_32, ax_p_32)
noncomputable def ax_l_32 : ax_Y := [ax_s_31]
set_option maxRecDepth 1000000 in
theorem ax_k_32_0 : ax_cr9 ax_w_32 ax_l_32 ax_t_32 71 15 40000 ax_p_32 ax_c_32_0 = true := by decide +kernel
set_option maxRecDepth 1000000 in
theorem ax_k_32_1 : ax_cr9 ax_w_32 ax_l_32 ax_t_32 71 15 40000 ax_p_32 ax_c_32_1 = true := by decide +kernel
theorem ax_y_32 {X : Nat × (Nat → Int32)} : ax_Y1 X ax_sp ax_rf ax_s_32 := ax_meth9 (c := ax_c_32_0) (T := ax_t_32) (ax_Yc ax_y_31 ax_Yn) ⟨ax_k_32_0, ⟨ax_k_32_1, trivial⟩⟩ List.mem_cons_self rfl
/-! $Reader.sum ((5, 236),) -/
noncomputable def ax_c_33_0 : ax_ct := (0, (1, [(236, 243)], [], [], []), [(15, .int 0, .float 0)], [some (.ref 15), some (.int 5), none, none, none, none], [(1, 15, .int 0)], [(false, .int 20000), (false, .int 0)], [])
noncomputable def ax_c_33_1 : ax_ct := (8, (4, [(236, 243), (0, 80), ((-2147483648), 2147483647), (5, 5)], [], [], []), [(15, .int 0, .float 3)], [some (.ref 15), some (.retAddr 0), some (.retAddr 1), some (.retAddr 2), none, none], [(0, 1, .int 0), (0, 2, .int 0), (0, 3, .int 0), (1, 15, .int 0)], [(false, .int 9992), (true, .retAddr 2)], [])
noncomputable def ax_t_33 : List ax_ct := [ax_c_33_0, ax_c_33_1]
noncomputable def ax_w_33 : ax_D := ([(15, 2), (15, 3)], [])
noncomputable def ax_p_33 : ax_po := (some (some ((-2147483648), 2147483647)), [], false, false, [])
noncomputable def ax_s_33 : ax_s9 := (70, ax_sumc ax_sp ax_c_33_0 16, ax_w_33, ax_p_33)
noncomputable def ax_l_33 : ax_Y := [ax_s_32]
set_option maxRecDepth 1000000 in
theorem ax_k_33_0 : ax_cr9 ax_w_33 ax_l_33 ax_t_33 70 16 40000 ax_p_33 ax_c_33_0 = true := by decide +kernel
set_option maxRecDepth 1000000 in
theorem ax_k_33_1 : ax_cr9 ax_w_33 ax_l_33 ax_t_33 70 16 40000 ax_p_33 ax_c_33_1 = true := by decide +kernel
theorem ax_y_33 {X : Nat × (Nat → Int32)} : ax_Y1 X ax_sp ax_rf ax_s_33 := ax_meth9 (c := ax_c_33_0) (T := ax_t_33) (ax_Yc ax_y_32 ax_Yn) ⟨ax_k_33_0, ⟨ax_k_33_1, trivial⟩⟩ List.mem_cons_self rfl
/-! $Reader.choice ((5, 236),) -/
noncomputable def ax_c_34_0 : ax_ct := (0, (1, [(236, 243)], [], [], []), [(15, .int 0, .float 0)], [some (.ref 15), some (.int 5), none, none, none, none], [(1, 15, .int 0)], [], [])
noncomputable def ax_t_34 : List ax_ct := [ax_c_34_0]
noncomputable def ax_w_34 : ax_D := ([(15, 2), (15, 3)], [])
noncomputable def ax_p_34 : ax_po := (some (some ((-2147483648), 2147483647)), [], false, false, [])
noncomputable def ax_s_34 : ax_s9 := (74, ax_sumc ax_sp ax_c_34_0 17, ax_w_34, ax_p_34)
noncomputable def ax_l_34 : ax_Y := [ax_s_18, ax_s_33]
set_option maxRecDepth 1000000 in
theorem ax_k_34_0 : ax_cr9 ax_w_34 ax_l_34 ax_t_34 74 17 40000 ax_p_34 ax_c_34_0 = true := by decide +kernel
theorem ax_y_34 {X : Nat × (Nat → Int32)} : ax_Y1 X ax_sp ax_rf ax_s_34 := ax_meth9 (c := ax_c_34_0) (T := ax_t_34) (ax_Yc ax_y_18 (ax_Yc ax_y_33 ax_Yn)) ⟨ax_k_34_0, trivial⟩ List.mem_cons_self rfl
/-! $Reader.atom ((4, 236),) -/
noncomputable def ax_c_35_0 : ax_ct := (0, (1, [(236, 243)], [], [], []), [(15, .int 0, .float 0)], [some (.ref 15), some (.int 4), none, none], [(1, 15, .int 0)], [], [])
noncomputable def ax_t_35 : List ax_ct := [ax_c_35_0]
noncomputable def ax_w_35 : ax_D := ([(15, 2), (15, 3)], [])
noncomputable def ax_p_35 : ax_po := (some (some ((-2147483648), 2147483647)), [], false, false, [])
noncomputable def ax_s_35 : ax_s9 := (73, ax_sumc ax_sp ax_c_35_0 18, ax_w_35, ax_p_35)
noncomputable def ax_l_35 : ax_Y := [ax_s_18, ax_s_33, ax_s_34]
set_option maxRecDepth 1000000 in
theorem ax_k_35_0 : ax_cr9 ax_w_35 ax_l_35 ax_t_35 73 18 40000 ax_p_35 ax_c_35_0 = true := by decide +kernel
theorem ax_y_35 {X : Nat × (Nat → Int32)} : ax_Y1 X ax_sp ax_rf ax_s_35 := ax_meth9 (c := ax_c_35_0) (T := ax_t_35) (ax_Yc ax_y_18 (ax_Yc ax_y_33 (ax_Yc ax_y_34 ax_Yn))) ⟨ax_k_35_0, trivial⟩ List.mem_cons_self rfl
/-! $Reader.product ((4, 236),) -/
noncomputable def ax_c_36_0 : ax_ct := (0, (1, [(236, 243)], [], [], []), [(15, .int 0, .float 0)], [some (.ref 15), some (.int 4), none, none, none, none], [(1, 15, .int 0)], [(false, .int 20000), (false, .int 0)], [])
noncomputable def ax_c_36_1 : ax_ct := (8, (4, [(236, 243), (0, 80), ((-2147483648), 2147483647), (4, 4)], [], [], []), [(15, .int 0, .float 3)], [some (.ref 15), some (.retAddr 0), some (.retAddr 1), some (.retAddr 2), none, none], [(0, 1, .int 0), (0, 2, .int 0), (0, 3, .int 0), (1, 15, .int 0)], [(false, .int 9992), (true, .retAddr 2)], [])
noncomputable def ax_t_36 : List ax_ct := [ax_c_36_0, ax_c_36_1]
noncomputable def ax_w_36 : ax_D := ([(15, 2), (15, 3)], [])
noncomputable def ax_p_36 : ax_po := (some (some ((-2147483648), 2147483647)), [], false, false, [])
noncomputable def ax_s_36 : ax_s9 := (71, ax_sumc ax_sp ax_c_36_0 19, ax_w_36, ax_p_36)
noncomputable def ax_l_36 : ax_Y := [ax_s_35]
set_option maxRecDepth 1000000 in
theorem ax_k_36_0 : ax_cr9 ax_w_36 ax_l_36 ax_t_36 71 19 40000 ax_p_36 ax_c_36_0 = true := by decide +kernel
set_option maxRecDepth 1000000 in
theorem ax_k_36_1 : ax_cr9 ax_w_36 ax_l_36 ax_t_36 71 19 40000 ax_p_36 ax_c_36_1 = true := by decide +kernel
theorem ax_y_36 {X : Nat × (Nat → Int32)} : ax_Y1 X ax_sp ax_rf ax_s_36 := ax_meth9 (c := ax_c_36_0) (T := ax_t_36) (ax_Yc ax_y_35 ax_Yn) ⟨ax_k_36_0, ⟨ax_k_36_1, trivial⟩⟩ List.mem_cons_self rfl
/-! $Reader.sum ((4, 236),) -/
noncomputable def ax_c_37_0 : ax_ct := (0, (1, [(236, 243)], [], [], []), [(15, .int 0, .float 0)], [some (.ref 15), some (.int 4), none, none, none, none], [(1, 15, .int 0)], [(false, .int 20000), (false, .int 0)], [])
noncomputable def ax_c_37_1 : ax_ct := (8, (4, [(236, 243), (0, 80), ((-2147483648), 2147483647), (4, 4)], [], [], []), [(15, .int 0, .float 3)], [some (.ref 15), some (.retAddr 0), some (.retAddr 1), some (.retAddr 2), none, none], [(0, 1, .int 0), (0, 2, .int 0), (0, 3, .int 0), (1, 15, .int 0)], [(false, .int 9992), (true, .retAddr 2)], [])
noncomputable def ax_t_37 : List ax_ct := [ax_c_37_0, ax_c_37_1]
noncomputable def ax_w_37 : ax_D := ([(15, 2), (15, 3)], [])
noncomputable def ax_p_37 : ax_po := (some (some ((-2147483648), 2147483647)), [], false, false, [])
noncomputable def ax_s_37 : ax_s9 := (70, ax_sumc ax_sp ax_c_37_0 20, ax_w_37, ax_p_37)
noncomputable def ax_l_37 : ax_Y := [ax_s_36]
set_option maxRecDepth 1000000 in
theorem ax_k_37_0 : ax_cr9 ax_w_37 ax_l_37 ax_t_37 70 20 40000 ax_p_37 ax_c_37_0 = true := by decide +kernel
set_option maxRecDepth 1000000 in
theorem ax_k_37_1 : ax_cr9 ax_w_37 ax_l_37 ax_t_37 70 20 40000 ax_p_37 ax_c_37_1 = true := by decide +kernel
theorem ax_y_37 {X : Nat × (Nat → Int32)} : ax_Y1 X ax_sp ax_rf ax_s_37 := ax_meth9 (c := ax_c_37_0) (T := ax_t_37) (ax_Yc ax_y_36 ax_Yn) ⟨ax_k_37_0, ⟨ax_k_37_1, trivial⟩⟩ List.mem_cons_self rfl
/-! $Reader.choice ((4, 236),) -/
noncomputable def ax_c_38_0 : ax_ct := (0, (1, [(236, 243)], [], [], []), [(15, .int 0, .float 0)], [some (.ref 15), some (.int 4), none, none, none, none], [(1, 15, .int 0)], [], [])
noncomputable def ax_t_38 : List ax_ct := [ax_c_38_0]
noncomputable def ax_w_38 : ax_D := ([(15, 2), (15, 3)], [])
noncomputable def ax_p_38 : ax_po := (some (some ((-2147483648), 2147483647)), [], false, false, [])
noncomputable def ax_s_38 : ax_s9 := (74, ax_sumc ax_sp ax_c_38_0 21, ax_w_38, ax_p_38)
noncomputable def ax_l_38 : ax_Y := [ax_s_18, ax_s_37]
set_option maxRecDepth 1000000 in
theorem ax_k_38_0 : ax_cr9 ax_w_38 ax_l_38 ax_t_38 74 21 40000 ax_p_38 ax_c_38_0 = true := by decide +kernel
theorem ax_y_38 {X : Nat × (Nat → Int32)} : ax_Y1 X ax_sp ax_rf ax_s_38 := ax_meth9 (c := ax_c_38_0) (T := ax_t_38) (ax_Yc ax_y_18 (ax_Yc ax_y_37 ax_Yn)) ⟨ax_k_38_0, trivial⟩ List.mem_cons_self rfl
/-! $Reader.atom ((3, 236),) -/
noncomputable def ax_c_39_0 : ax_ct := (0, (1, [(236, 243)], [], [], []), [(15, .int 0, .float 0)], [some (.ref 15), some (.int 3), none, none], [(1, 15, .int 0)], [], [])
noncomputable def ax_t_39 : List ax_ct := [ax_c_39_0]
noncomputable def ax_w_39 : ax_D := ([(15, 2), (15, 3)], [])
noncomputable def ax_p_39 : ax_po := (some (some ((-2147483648), 2147483647)), [], false, false, [])
noncomputable def ax_s_39 : ax_s9 := (73, ax_sumc ax_sp ax_c_39_0 22, ax_w_39, ax_p_39)
noncomputable def ax_l_39 : ax_Y := [ax_s_18, ax_s_37, ax_s_38]
set_option maxRecDepth 1000000 in
theorem ax_k_39_0 : ax_cr9 ax_w_39 ax_l_39 ax_t_39 73 22 40000 ax_p_39 ax_c_39_0 = true := by decide +kernel
theorem ax_y_39 {X : Nat × (Nat → Int32)} : ax_Y1 X ax_sp ax_rf ax_s_39 := ax_meth9 (c := ax_c_39_0) (T := ax_t_39) (ax_Yc ax_y_18 (ax_Yc ax_y_37 (ax_Yc ax_y_38 ax_Yn))) ⟨ax_k_39_0, trivial⟩ List.mem_cons_self rfl
