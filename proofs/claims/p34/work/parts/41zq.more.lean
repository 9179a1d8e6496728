/-! summaries of the row alone -/
/-! java/util/Arrays.fill ('fill', 320) -/
noncomputable def ax_c_320_0 : ax_ct := (0, (2, [(0, 0), (236, 243)], [], [], []), [], [some (.float 0), some (.retAddr 1), none, none], [(0, 0, .int 0), (0, 1, .int 0)], [], [])
noncomputable def ax_t_320 : List ax_ct := [ax_c_320_0]
noncomputable def ax_w_320 : ax_D := ([], [(236, 243)])
noncomputable def ax_p_320 : ax_po := (none, [], false, false, [])
noncomputable def ax_s_320 : ax_s9 := (246, ax_sumc ax_sp ax_c_320_0 1, ax_w_320, ax_p_320)
noncomputable def ax_l_320 : ax_Y := []
set_option maxRecDepth 1000000 in
theorem ax_k_320_0 : ax_cr9 ax_w_320 ax_l_320 ax_t_320 246 1 40000 ax_p_320 ax_c_320_0 = true := by decide +kernel
theorem ax_y_320 {X : Nat × (Nat → Int32)} : ax_Y1 X ax_sp ax_rf ax_s_320 := ax_meth9 (c := ax_c_320_0) (T := ax_t_320) ax_Yn ⟨ax_k_320_0, trivial⟩ List.mem_cons_self rfl
/-! Model.row ('row', 'more300') -/
noncomputable def ax_c_300_0 : ax_ct := (0, (3, [((-2147483648), 2147483647), ((-2147483648), 2147483647), ((-2147483648), (-1))], [], [], []), [], [some (.ref 244), some (.retAddr 0), some (.retAddr 1), some (.retAddr 2), none], [(0, 1, .int 0), (0, 2, .int 0), (0, 3, .int 0)], [], [])
noncomputable def ax_t_300 : List ax_ct := [ax_c_300_0]
noncomputable def ax_w_300 : ax_D := ([], [])
noncomputable def ax_p_300 : ax_po := (some (some ((-1), (-1))), [], false, false, [])
noncomputable def ax_s_300 : ax_s9 := (238, ax_sumc ax_sp ax_c_300_0 2, ax_w_300, ax_p_300)
noncomputable def ax_l_300 : ax_Y := []
set_option maxRecDepth 1000000 in
theorem ax_k_300_0 : ax_cr9 ax_w_300 ax_l_300 ax_t_300 238 2 40000 ax_p_300 ax_c_300_0 = true := by decide +kernel
theorem ax_y_300 {X : Nat × (Nat → Int32)} : ax_Y1 X ax_sp ax_rf ax_s_300 := ax_meth9 (c := ax_c_300_0) (T := ax_t_300) ax_Yn ⟨ax_k_300_0, trivial⟩ List.mem_cons_self rfl
/-! Model.row ('row', 'more301') -/
noncomputable def ax_c_301_0 : ax_ct := (0, (3, [((-2147483648), 2147483647), ((-2147483648), 2147483647), (8, 2147483647)], [], [], []), [], [some (.ref 244), some (.retAddr 0), some (.retAddr 1), some (.retAddr 2), none], [(0, 1, .int 0), (0, 2, .int 0), (0, 3, .int 0)], [], [])
noncomputable def ax_t_301 : List ax_ct := [ax_c_301_0]
noncomputable def ax_w_301 : ax_D := ([], [])
noncomputable def ax_p_301 : ax_po := (some (some ((-1), (-1))), [], false, false, [])
noncomputable def ax_s_301 : ax_s9 := (238, ax_sumc ax_sp ax_c_301_0 2, ax_w_301, ax_p_301)
noncomputable def ax_l_301 : ax_Y := []
set_option maxRecDepth 1000000 in
theorem ax_k_301_0 : ax_cr9 ax_w_301 ax_l_301 ax_t_301 238 2 40000 ax_p_301 ax_c_301_0 = true := by decide +kernel
theorem ax_y_301 {X : Nat × (Nat → Int32)} : ax_Y1 X ax_sp ax_rf ax_s_301 := ax_meth9 (c := ax_c_301_0) (T := ax_t_301) ax_Yn ⟨ax_k_301_0, trivial⟩ List.mem_cons_self rfl
/-! Model.row ('row', 'more302') -/
noncomputable def ax_c_302_0 : ax_ct := (0, (3, [((-2147483648), 2147483647), ((-2147483648), (-1)), (0, 7)], [], [], []), [], [some (.ref 244), some (.retAddr 0), some (.retAddr 1), some (.retAddr 2), none], [(0, 1, .int 0), (0, 2, .int 0), (0, 3, .int 0)], [], [])
noncomputable def ax_t_302 : List ax_ct := [ax_c_302_0]
noncomputable def ax_w_302 : ax_D := ([], [])
noncomputable def ax_p_302 : ax_po := (some (some ((-1), (-1))), [], false, false, [])
noncomputable def ax_s_302 : ax_s9 := (238, ax_sumc ax_sp ax_c_302_0 2, ax_w_302, ax_p_302)
noncomputable def ax_l_302 : ax_Y := []
set_option maxRecDepth 1000000 in
theorem ax_k_302_0 : ax_cr9 ax_w_302 ax_l_302 ax_t_302 238 2 40000 ax_p_302 ax_c_302_0 = true := by decide +kernel
theorem ax_y_302 {X : Nat × (Nat → Int32)} : ax_Y1 X ax_sp ax_rf ax_s_302 := ax_meth9 (c := ax_c_302_0) (T := ax_t_302) ax_Yn ⟨ax_k_302_0, trivial⟩ List.mem_cons_self rfl
/-! Model.row ('row', 'more303') -/
noncomputable def ax_c_303_0 : ax_ct := (0, (3, [((-2147483648), 2147483647), (3, 2147483647), (0, 7)], [], [], []), [], [some (.ref 244), some (.retAddr 0), some (.retAddr 1), some (.retAddr 2), none], [(0, 1, .int 0), (0, 2, .int 0), (0, 3, .int 0)], [], [])
noncomputable def ax_t_303 : List ax_ct := [ax_c_303_0]
noncomputable def ax_w_303 : ax_D := ([], [])
noncomputable def ax_p_303 : ax_po := (some (some ((-1), (-1))), [], false, false, [])
noncomputable def ax_s_303 : ax_s9 := (238, ax_sumc ax_sp ax_c_303_0 2, ax_w_303, ax_p_303)
noncomputable def ax_l_303 : ax_Y := []
set_option maxRecDepth 1000000 in
theorem ax_k_303_0 : ax_cr9 ax_w_303 ax_l_303 ax_t_303 238 2 40000 ax_p_303 ax_c_303_0 = true := by decide +kernel
theorem ax_y_303 {X : Nat × (Nat → Int32)} : ax_Y1 X ax_sp ax_rf ax_s_303 := ax_meth9 (c := ax_c_303_0) (T := ax_t_303) ax_Yn ⟨ax_k_303_0, trivial⟩ List.mem_cons_self rfl
/-! Model.row ('row', 'more304') -/
noncomputable def ax_c_304_0 : ax_ct := (0, (3, [(81, 2147483647), (0, 2), (0, 7)], [], [], []), [], [some (.ref 244), some (.retAddr 0), some (.retAddr 1), some (.retAddr 2), none], [(0, 1, .int 0), (0, 2, .int 0), (0, 3, .int 0)], [], [])
noncomputable def ax_t_304 : List ax_ct := [ax_c_304_0]
noncomputable def ax_w_304 : ax_D := ([], [])
noncomputable def ax_p_304 : ax_po := (some (some ((-1), (-1))), [], false, false, [])
noncomputable def ax_s_304 : ax_s9 := (238, ax_sumc ax_sp ax_c_304_0 2, ax_w_304, ax_p_304)
noncomputable def ax_l_304 : ax_Y := []
set_option maxRecDepth 1000000 in
theorem ax_k_304_0 : ax_cr9 ax_w_304 ax_l_304 ax_t_304 238 2 40000 ax_p_304 ax_c_304_0 = true := by decide +kernel
theorem ax_y_304 {X : Nat × (Nat → Int32)} : ax_Y1 X ax_sp ax_rf ax_s_304 := ax_meth9 (c := ax_c_304_0) (T := ax_t_304) ax_Yn ⟨ax_k_304_0, trivial⟩ List.mem_cons_self rfl
/-! Model.row ('row', 'more305') -/
noncomputable def ax_c_305_0 : ax_ct := (0, (3, [((-2147483648), (-1)), (0, 2), (0, 7)], [], [], []), [], [some (.ref 244), some (.retAddr 0), some (.retAddr 1), some (.retAddr 2), none], [(0, 1, .int 0), (0, 2, .int 0), (0, 3, .int 0)], [], [])
noncomputable def ax_t_305 : List ax_ct := [ax_c_305_0]
noncomputable def ax_w_305 : ax_D := ([], [])
noncomputable def ax_p_305 : ax_po := (some (some ((-14), (-14))), [], false, false, [])
noncomputable def ax_s_305 : ax_s9 := (238, ax_sumc ax_sp ax_c_305_0 2, ax_w_305, ax_p_305)
noncomputable def ax_l_305 : ax_Y := []
set_option maxRecDepth 1000000 in
theorem ax_k_305_0 : ax_cr9 ax_w_305 ax_l_305 ax_t_305 238 2 40000 ax_p_305 ax_c_305_0 = true := by decide +kernel
theorem ax_y_305 {X : Nat × (Nat → Int32)} : ax_Y1 X ax_sp ax_rf ax_s_305 := ax_meth9 (c := ax_c_305_0) (T := ax_t_305) ax_Yn ⟨ax_k_305_0, trivial⟩ List.mem_cons_self rfl
/-! Model.row ('row', 'more306') -/
noncomputable def ax_c_306_0 : ax_ct := (0, (3, [(0, 80), (0, 2), (0, 7)], [], [], []), [], [some (.ref 244), some (.retAddr 0), some (.retAddr 1), some (.retAddr 2), none], [(0, 1, .int 0), (0, 2, .int 0), (0, 3, .int 0)], [(false, .int 20000), (false, .int 0)], [])
noncomputable def ax_c_306_1 : ax_ct := (57, (4, [(0, 80), (0, 80), (0, 2), (0, 7)], [], [], []), [], [some (.ref 244), some (.retAddr 0), some (.retAddr 1), some (.retAddr 2), some (.retAddr 3)], [(0, 1, .int 0), (0, 2, .int 0), (0, 3, .int 0), (0, 4, .int 0)], [(false, .int 9943), (true, .retAddr 3)], [])
noncomputable def ax_t_306 : List ax_ct := [ax_c_306_0, ax_c_306_1]
noncomputable def ax_w_306 : ax_D := ([], [(283, 283), (285, 287)])
noncomputable def ax_p_306 : ax_po := (some (some (0, 0)), [], false, false, [])
noncomputable def ax_s_306 : ax_s9 := (238, ax_sumc ax_sp ax_c_306_0 2, ax_w_306, ax_p_306)
noncomputable def ax_l_306 : ax_Y := []
set_option maxRecDepth 1000000 in
theorem ax_k_306_0 : ax_cr9 ax_w_306 ax_l_306 ax_t_306 238 2 40000 ax_p_306 ax_c_306_0 = true := by decide +kernel
set_option maxRecDepth 1000000 in
theorem ax_k_306_1 : ax_cr9 ax_w_306 ax_l_306 ax_t_306 238 2 40000 ax_p_306 ax_c_306_1 = true := by decide +kernel
theorem ax_y_306 {X : Nat × (Nat → Int32)} : ax_Y1 X ax_sp ax_rf ax_s_306 := ax_meth9 (c := ax_c_306_0) (T := ax_t_306) ax_Yn ⟨ax_k_306_0, ⟨ax_k_306_1, trivial⟩⟩ List.mem_cons_self rfl
