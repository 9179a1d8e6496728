/-! $Reader.product ((3, 236),) -/
noncomputable def ax_c_40_0 : ax_ct := (0, (1, [(236, 243)], [], [], []), [(15, .int 0, .float 0)], [some (.ref 15), some (.int 3), none, none, none, none], [(1, 15, .int 0)], [(false, .int 20000), (false, .int 0)], [])
noncomputable def ax_c_40_1 : ax_ct := (8, (4, [(236, 243), (0, 80), ((-2147483648), 2147483647), (3, 3)], [], [], []), [(15, .int 0, .float 3)], [some (.ref 15), some (.retAddr 0), some (.retAddr 1), some (.retAddr 2), none, none], [(0, 1, .int 0), (0, 2, .int 0), (0, 3, .int 0), (1, 15, .int 0)], [(false, .int 9992), (true, .retAddr 2)], [])
noncomputable def ax_t_40 : List ax_ct := [ax_c_40_0, ax_c_40_1]
noncomputable def ax_w_40 : ax_D := ([(15, 2), (15, 3)], [])
noncomputable def ax_p_40 : ax_po := (some (some ((-2147483648), 2147483647)), [], false, false, [])
noncomputable def ax_s_40 : ax_s9 := (71, ax_sumc ax_sp ax_c_40_0 23, ax_w_40, ax_p_40)
noncomputable def ax_l_40 : ax_Y := [ax_s_39]
set_option maxRecDepth 1000000 in
theorem ax_k_40_0 : ax_cr9 ax_w_40 ax_l_40 ax_t_40 71 23 40000 ax_p_40 ax_c_40_0 = true := by decide +kernel
set_option maxRecDepth 1000000 in
theorem ax_k_40_1 : ax_cr9 ax_w_40 ax_l_40 ax_t_40 71 23 40000 ax_p_40 ax_c_40_1 = true := by decide +kernel
theorem ax_y_40 {X : Nat × (Nat → Int32)} : ax_Y1 X ax_sp ax_rf ax_s_40 := ax_meth9 (c := ax_c_40_0) (T := ax_t_40) (ax_Yc ax_y_39 ax_Yn) ⟨ax_k_40_0, ⟨ax_k_40_1, trivial⟩⟩ List.mem_cons_self rfl
/-! $Reader.sum ((3, 236),) -/
noncomputable def ax_c_41_0 : ax_ct := (0, (1, [(236, 243)], [], [], []), [(15, .int 0, .float 0)], [some (.ref 15), some (.int 3), none, none, none, none], [(1, 15, .int 0)], [(false, .int 20000), (false, .int 0)], [])
noncomputable def ax_c_41_1 : ax_ct := (8, (4, [(236, 243), (0, 80), ((-2147483648), 2147483647), (3, 3)], [], [], []), [(15, .int 0, .float 3)], [some (.ref 15), some (.retAddr 0), some (.retAddr 1), some (.retAddr 2), none, none], [(0, 1, .int 0), (0, 2, .int 0), (0, 3, .int 0), (1, 15, .int 0)], [(false, .int 9992), (true, .retAddr 2)], [])
noncomputable def ax_t_41 : List ax_ct := [ax_c_41_0, ax_c_41_1]
noncomputable def ax_w_41 : ax_D := ([(15, 2), (15, 3)], [])
noncomputable def ax_p_41 : ax_po := (some (some ((-2147483648), 2147483647)), [], false, false, [])
noncomputable def ax_s_41 : ax_s9 := (70, ax_sumc ax_sp ax_c_41_0 24, ax_w_41, ax_p_41)
noncomputable def ax_l_41 : ax_Y := [ax_s_40]
set_option maxRecDepth 1000000 in
theorem ax_k_41_0 : ax_cr9 ax_w_41 ax_l_41 ax_t_41 70 24 40000 ax_p_41 ax_c_41_0 = true := by decide +kernel
set_option maxRecDepth 1000000 in
theorem ax_k_41_1 : ax_cr9 ax_w_41 ax_l_41 ax_t_41 70 24 40000 ax_p_41 ax_c_41_1 = true := by decide +kernel
theorem ax_y_41 {X : Nat × (Nat → Int32)} : ax_Y1 X ax_sp ax_rf ax_s_41 := ax_meth9 (c := ax_c_41_0) (T := ax_t_41) (ax_Yc ax_y_40 ax_Yn) ⟨ax_k_41_0, ⟨ax_k_41_1, trivial⟩⟩ List.mem_cons_self rfl
/-! $Reader.choice ((3, 236),) -/
noncomputable def ax_c_42_0 : ax_ct := (0, (1, [(236, 243)], [], [], []), [(15, .int 0, .float 0)], [some (.ref 15), some (.int 3), none, none, none, none], [(1, 15, .int 0)], [], [])
noncomputable def ax_t_42 : List ax_ct := [ax_c_42_0]
noncomputable def ax_w_42 : ax_D := ([(15, 2), (15, 3)], [])
noncomputable def ax_p_42 : ax_po := (some (some ((-2147483648), 2147483647)), [], false, false, [])
noncomputable def ax_s_42 : ax_s9 := (74, ax_sumc ax_sp ax_c_42_0 25, ax_w_42, ax_p_42)
noncomputable def ax_l_42 : ax_Y := [ax_s_18, ax_s_41]
set_option maxRecDepth 1000000 in
theorem ax_k_42_0 : ax_cr9 ax_w_42 ax_l_42 ax_t_42 74 25 40000 ax_p_42 ax_c_42_0 = true := by decide +kernel
theorem ax_y_42 {X : Nat × (Nat → Int32)} : ax_Y1 X ax_sp ax_rf ax_s_42 := ax_meth9 (c := ax_c_42_0) (T := ax_t_42) (ax_Yc ax_y_18 (ax_Yc ax_y_41 ax_Yn)) ⟨ax_k_42_0, trivial⟩ List.mem_cons_self rfl
/-! $Reader.atom ((2, 236),) -/
noncomputable def ax_c_43_0 : ax_ct := (0, (1, [(236, 243)], [], [], []), [(15, .int 0, .float 0)], [some (.ref 15), some (.int 2), none, none], [(1, 15, .int 0)], [], [])
noncomputable def ax_t_43 : List ax_ct := [ax_c_43_0]
noncomputable def ax_w_43 : ax_D := ([(15, 2), (15, 3)], [])
noncomputable def ax_p_43 : ax_po := (some (some ((-2147483648), 2147483647)), [], false, false, [])
noncomputable def ax_s_43 : ax_s9 := (73, ax_sumc ax_sp ax_c_43_0 26, ax_w_43, ax_p_43)
noncomputable def ax_l_43 : ax_Y := [ax_s_18, ax_s_41, ax_s_42]
set_option maxRecDepth 1000000 in
theorem ax_k_43_0 : ax_cr9 ax_w_43 ax_l_43 ax_t_43 73 26 40000 ax_p_43 ax_c_43_0 = true := by decide +kernel
theorem ax_y_43 {X : Nat × (Nat → Int32)} : ax_Y1 X ax_sp ax_rf ax_s_43 := ax_meth9 (c := ax_c_43_0) (T := ax_t_43) (ax_Yc ax_y_18 (ax_Yc ax_y_41 (ax_Yc ax_y_42 ax_Yn))) ⟨ax_k_43_0, trivial⟩ List.mem_cons_self rfl
/-! $Reader.product ((2, 236),) -/
noncomputable def ax_c_44_0 : ax_ct := (0, (1, [(236, 243)], [], [], []), [(15, .int 0, .float 0)], [some (.ref 15), some (.int 2), none, none, none, none], [(1, 15, .int 0)], [(false, .int 20000), (false, .int 0)], [])
noncomputable def ax_c_44_1 : ax_ct := (8, (4, [(236, 243), (0, 80), ((-2147483648), 2147483647), (2, 2)], [], [], []), [(15, .int 0, .float 3)], [some (.ref 15), some (.retAddr 0), some (.retAddr 1), some (.retAddr 2), none, none], [(0, 1, .int 0), (0, 2, .int 0), (0, 3, .int 0), (1, 15, .int 0)], [(false, .int 9992), (true, .retAddr 2)], [])
noncomputable def ax_t_44 : List ax_ct := [ax_c_44_0, ax_c_44_1]
noncomputable def ax_w_44 : ax_D := ([(15, 2), (15, 3)], [])
noncomputable def ax_p_44 : ax_po := (some (some ((-2147483648), 2147483647)), [], false, false, [])
noncomputable def ax_s_44 : ax_s9 := (71, ax_sumc ax_sp ax_c_44_0 27, ax_w_44, ax_p_44)
noncomputable def ax_l_44 : ax_Y := [ax_s_43]
set_option maxRecDepth 1000000 in
theorem ax_k_44_0 : ax_cr9 ax_w_44 ax_l_44 ax_t_44 71 27 40000 ax_p_44 ax_c_44_0 = true := by decide +kernel
set_option maxRecDepth 1000000 in
theorem ax_k_44_1 : ax_cr9 ax_w_44 ax_l_44 ax_t_44 71 27 40000 ax_p_44 ax_c_44_1 = true := by decide +kernel
theorem ax_y_44 {X : Nat × (Nat → Int32)} : ax_Y1 X ax_sp ax_rf ax_s_44 := ax_meth9 (c := ax_c_44_0) (T := ax_t_44) (ax_Yc ax_y_43 ax_Yn) ⟨ax_k_44_0, ⟨ax_k_44_1, trivial⟩⟩ List.mem_cons_self rfl
/-! $Reader.sum ((2, 236),) -/
noncomputable def ax_c_45_0 : ax_ct := (0, (1, [(236, 243)], [], [], []), [(15, .int 0, .float 0)], [some (.ref 15), some (.int 2), none, none, none, none], [(1, 15, .int 0)], [(false, .int 20000), (false, .int 0)], [])
noncomputable def ax_c_45_1 : ax_ct := (8, (4, [(236, 243), (0, 80), ((-2147483648), 2147483647), (2, 2)], [], [], []), [(15, .int 0, .float 3)], [some (.ref 15), some (.retAddr 0), some (.retAddr 1), some (.retAddr 2), none, none], [(0, 1, .int 0), (0, 2, .int 0), (0, 3, .int 0), (1, 15, .int 0)], [(false, .int 9992), (true, .retAddr 2)], [])
noncomputable def ax_t_45 : List ax_ct := [ax_c_45_0, ax_c_45_1]
noncomputable def ax_w_45 : ax_D := ([(15, 2), (15, 3)], [])
noncomputable def ax_p_45 : ax_po := (some (some ((-2147483648), 2147483647)), [], false, false, [])
noncomputable def ax_s_45 : ax_s9 := (70, ax_sumc ax_sp ax_c_45_0 28, ax_w_45, ax_p_45)
noncomputable def ax_l_45 : ax_Y := [ax_s_44]
set_option maxRecDepth 1000000 in
theorem ax_k_45_0 : ax_cr9 ax_w_45 ax_l_45 ax_t_45 70 28 40000 ax_p_45 ax_c_45_0 = true := by decide +kernel
set_option maxRecDepth 1000000 in
theorem ax_k_45_1 : ax_cr9 ax_w_45 ax_l_45 ax_t_45 70 28 40000 ax_p_45 ax_c_45_1 = true := by decide +kernel
theorem ax_y_45 {X : Nat × (Nat → Int32)} : ax_Y1 X ax_sp ax_rf ax_s_45 := ax_meth9 (c := ax_c_45_0) (T := ax_t_45) (ax_Yc ax_y_44 ax_Yn) ⟨ax_k_45_0, ⟨ax_k_45_1, trivial⟩⟩ List.mem_cons_self rfl
/-! $Reader.choice ((2, 236),) -/
noncomputable def ax_c_46_0 : ax_ct := (0, (1, [(236, 243)], [], [], []), [(15, .int 0, .float 0)], [some (.ref 15), some (.int 2), none, none, none, none], [(1, 15, .int 0)], [], [])
noncomputable def ax_t_46 : List ax_ct := [ax_c_46_0]
noncomputable def ax_w_46 : ax_D := ([(15, 2), (15, 3)], [])
noncomputable def ax_p_46 : ax_po := (some (some ((-2147483648), 2147483647)), [], false, false, [])
noncomputable def ax_s_46 : ax_s9 := (74, ax_sumc ax_sp ax_c_46_0 29, ax_w_46, ax_p_46)
noncomputable def ax_l_46 : ax_Y := [ax_s_18, ax_s_45]
set_option maxRecDepth 1000000 in
theorem ax_k_46_0 : ax_cr9 ax_w_46 ax_l_46 ax_t_46 74 29 40000 ax_p_46 ax_c_46_0 = true := by decide +kernel
theorem ax_y_46 {X : Nat × (Nat → Int32)} : ax_Y1 X ax_sp ax_rf ax_s_46 := ax_meth9 (c := ax_c_46_0) (T := ax_t_46) (ax_Yc ax_y_18 (ax_Yc ax_y_45 ax_Yn)) ⟨ax_k_46_0, trivial⟩ List.mem_cons_self rfl
/-! $Reader.atom ((1, 236),) -/
noncomputable def ax_c_47_0 : ax_ct := (0, (1, [(236, 243)], [], [], []), [(15, .int 0, .float 0)], [some (.ref 15), some (.int 1), none, none], [(1, 15, .int 0)], [], [])
noncomputable def ax_t_47 : List ax_ct := [ax_c_47_0]
noncomputable def ax_w_47 : ax_D := ([(15, 2), (15, 3)], [])
noncomputable def ax_p_47 : ax_po := (some (some ((-2147483648), 2147483647)), [], false, false, [])
noncomputable def ax_s_47 : ax_s9 := (73, ax_sumc ax_sp ax_c_47_0 30, ax_w_47, ax_p_47)
noncomputable def ax_l_47 : ax_Y := [ax_s_18, ax_s_45, ax_s_46]
set_option maxRecDepth 1000000 in
theorem ax_k_47_0 : ax_cr9 ax_w_47 ax_l_47 ax_t_47 73 30 40000 ax_p_47 ax_c_47_0 = true := by decide +kernel
theorem ax_y_47 {X : Nat × (Nat → Int32)} : ax_Y1 X ax_sp ax_rf ax_s_47 := ax_meth9 (c := ax_c_47_0) (T := ax_t_47) (ax_Yc ax_y_18 (ax_Yc ax_y_45 (ax_Yc ax_y_46 ax_Yn))) ⟨ax_k_47_0, trivial⟩ List.mem_cons_self rfl
/-! $Reader.product ((1, 236),) -/
noncomputable def ax_c_48_0 : ax_ct := (0, (1, [(236, 243)], [], [], []), [(15, .int 0, .float 0)], [some (.ref 15), some (.int 1), none, none, none, none], [(1, 15, .int 0)], [(false, .int 20000), (false, .int 0)], [])
noncomputable def ax_c_48_1 : ax_ct := (8, (4, [(236, 243), (0, 80), ((-2147483648), 2147483647), (1, 1)], [], [], []), [(15, .int 0, .float 3)], [some (.ref 15), some (.retAddr 0), some (.retAddr 1), some (.retAddr 2), none, none], [(0, 1, .int 0), (0, 2, .int 0), (0, 3, .int 0), (1, 15, .int 0)], [(false, .int 9992), (true, .retAddr 2)], [])
noncomputable def ax_t_48 : List ax_ct := [ax_c_48_0, ax_c_48_1]
noncomputable def ax_w_48 : ax_D := ([(15, 2), (15, 3)], [])
noncomputable def ax_p_48 : ax_po := (some (some ((-2147483648), 2147483647)), [], false, false, [])
noncomputable def ax_s_48 : ax_s9 := (71, ax_sumc ax_sp ax_c_48_0 31, ax_w_48, ax_p_48)
noncomputable def ax_l_48 : ax_Y := [ax_s_47]
set_option maxRecDepth 1000000 in
theorem ax_k_48_0 : ax_cr9 ax_w_48 ax_l_48 ax_t_48 71 31 40000 ax_p_48 ax_c_48_0 = true := by decide +kernel
set_option maxRecDepth 1000000 in
theorem ax_k_48_1 : ax_cr9 ax_w_48 ax_l_48 ax_t_48 71 31 40000 ax_p_48 ax_c_48_1 = true := by decide +kernel
theorem ax_y_48 {X : Nat × (Nat → Int32)} : ax_Y1 X ax_sp ax_rf ax_s_48 := ax_meth9 (c := ax_c_48_0) (T := ax_t_48) (ax_Yc ax_y_47 ax_Yn) ⟨ax_k_48_0, ⟨ax_k_48_1, trivial⟩⟩ List.mem_cons_self rfl
/-! $Reader.sum ((1, 236),) -/
noncomputable def ax_c_49_0 : ax_ct := (0, (1, [(236, 243)], [], [], []), [(15, .int 0, .float 0)], [some (.ref 15), some (.int 1), none, none, none, none], [(1, 15, .int 0)], [(false, .int 20000), (false, .int 0)], [])
noncomputable def ax_c_49_1 : ax_ct := (8, (4, [(236, 243), (0, 80), ((-2147483648), 2147483647), (1, 1)], [], [], []), [(15, .int 0, .float 3)], [some (.ref 15), some (.retAddr 0), some (.retAddr 1), some (.retAddr 2), none, none], [(0, 1, .int 0), (0, 2, .int 0), (0, 3, .int 0), (1, 15, .int 0)], [(false, .int 9992), (true, .retAddr 2)], [])
noncomputable def ax_t_49 : List ax_ct := [ax_c_49_0, ax_c_49_1]
noncomputable def ax_w_49 : ax_D := ([(15, 2), (15, 3)], [])
noncomputable def ax_p_49 : ax_po := (some (some ((-2147483648), 2147483647)), [], false, false, [])
noncomputable def ax_s_49 : ax_s9 := (70, ax_sumc ax_sp ax_c_49_0 32, ax_w_49, ax_p_49)
noncomputable def ax_l_49 : ax_Y := [ax_s_48]
set_option maxRecDepth 1000000 in
theorem ax_k_49_0 : ax_cr9 ax_w_49 ax_l_49 ax_t_49 70 32 40000 ax_p_49 ax_c_49_0 = true := by decide +kernel
set_option maxRecDepth 1000000 in
theorem ax_k_49_1 : ax_cr9 ax_w_49 ax_l_49 ax_t_49 70 32 40000 ax_p_49 ax_c_49_1 = true := by decide +kernel
theorem ax_y_49 {X : Nat × (Nat → Int32)} : ax_Y1 X ax_sp ax_rf ax_s_49 := ax_meth9 (c := ax_c_49_0) (T := ax_t_49) (ax_Yc ax_y_48 ax_Yn) ⟨ax_k_49_0, ⟨ax_k_49_1, trivial⟩⟩ List.mem_cons_self rfl
/-! $Reader.choice ((1, 236),) -/
noncomputable def ax_c_50_0 : ax_ct := (0, (1, [(236, 243)], [], [], []), [(15, .int 0, .float 0)], [some (.ref 15), some (.int 1), none, none, none, none], [(1, 15, .int 0)], [], [])
noncomputable def ax_t_50 : List ax_ct := [ax_c_50_0]
noncomputable def ax_w_50 : ax_D := ([(15, 2), (15, 3)], [])
noncomputable def ax_p_50 : ax_po := (some (some ((-2147483648), 2147483647)), [], false, false, [])
noncomputable def ax_s_50 : ax_s9 := (74, ax_sumc ax_sp ax_c_50_0 33, ax_w_50, ax_p_50)
noncomputable def ax_l_50 : ax_Y := [ax_s_18, ax_s_49]
set_option maxRecDepth 1000000 in
theorem ax_k_50_0 : ax_cr9 ax_w_50 ax_l_50 ax_t_50 74 33 40000 ax_p_50 ax_c_50_0 = true := by decide +kernel
theorem ax_y_50 {X : Nat × (Nat → Int32)} : ax_Y1 X ax_sp ax_rf ax_s_50 := ax_meth9 (c := ax_c_50_0) (T := ax_t_50) (ax_Yc ax_y_18 (ax_Yc ax_y_49 ax_Yn)) ⟨ax_k_50_0, trivial⟩ List.mem_cons_self rfl
/-! $Reader.atom ((0, 236),) -/
noncomputable def ax_c_51_0 : ax_ct := (0, (1, [(236, 243)], [], [], []), [(15, .int 0, .float 0)], [some (.ref 15), some (.int 0), none, none], [(1, 15, .int 0)], [], [])
noncomputable def ax_t_51 : List ax_ct := [ax_c_51_0]
noncomputable def ax_w_51 : ax_D := ([(15, 2), (15, 3)], [])
noncomputable def ax_p_51 : ax_po := (some (some ((-2147483648), 2147483647)), [], false, false, [])
noncomputable def ax_s_51 : ax_s9 := (73, ax_sumc ax_sp ax_c_51_0 34, ax_w_51, ax_p_51)
noncomputable def ax_l_51 : ax_Y := [ax_s_18, ax_s_49, ax_s_50]
set_option maxRecDepth 1000000 in
theorem ax_k_51_0 : ax_cr9 ax_w_51 ax_l_51 ax_t_51 73 34 40000 ax_p_51 ax_c_51_0 = true := by decide +kernel
theorem ax_y_51 {X : Nat × (Nat → Int32)} : ax_Y1 X ax_sp ax_rf ax_s_51 := ax_meth9 (c := ax_c_51_0) (T := ax_t_51) (ax_Yc ax_y_18 (ax_Yc ax_y_49 (ax_Yc ax_y_50 ax_Yn))) ⟨ax_k_51_0, trivial⟩ List.mem_cons_self rfl
/-! $Reader.product ((0, 236),) -/
noncomputable def ax_c_52_0 : ax_ct := (0, (1, [(236, 243)], [], [], []), [(15, .int 0, .float 0)], [some (.ref 15), some (.int 0), none, none, none, none], [(1, 15, .int 0)], [(false, .int 20000), (false, .int 0)], [])
noncomputable def ax_c_52_1 : ax_ct := (8, (4, [(236, 243), (0, 80), ((-2147483648), 2147483647), (0, 0)], [], [], []), [(15, .int 0, .float 3)], [some (.ref 15), some (.retAddr 0), some (.retAddr 1), some (.retAddr 2), none, none], [(0, 1, .int 0), (0, 2, .int 0), (0, 3, .int 0), (1, 15, .int 0)], [(false, .int 9992), (true, .retAddr 2)], [])
noncomputable def ax_t_52 : List ax_ct := [ax_c_52_0, ax_c_52_1]
noncomputable def ax_w_52 : ax_D := ([(15, 2), (15, 3)], [])
noncomputable def ax_p_52 : ax_po := (some (some ((-2147483648), 2147483647)), [], false, false, [])
noncomputable def ax_s_52 : ax_s9 := (71, ax_sumc ax_sp ax_c_52_0 35, ax_w_52, ax_p_52)
noncomputable def ax_l_52 : ax_Y := [ax_s_51]
set_option maxRecDepth 1000000 in
theorem ax_k_52_0 : ax_cr9 ax_w_52 ax_l_52 ax_t_52 71 35 40000 ax_p_52 ax_c_52_0 = true := by decide +kernel
set_option maxRecDepth 1000000 in
theorem ax_k_52_1 : ax_cr9 ax_w_52 ax_l_52 ax_t_52 71 35 40000 ax_p_52 ax_c_52_1 = true := by decide +kernel
theorem ax_y_52 {X : Nat × (Nat → Int32)} : ax_Y1 X ax_sp ax_rf ax_s_52 := ax_meth9 (c := ax_c_52_0) (T := ax_t_52) (ax_Yc ax_y_51 ax_Yn) ⟨ax_k_52_0, ⟨ax_k_52_1, trivial⟩⟩ List.mem_cons_self rfl
/-! $Reader.sum ((0, 236),) -/
noncomputable def ax_c_53_0 : ax_ct := (0, (1, [(236, 243)], [], [], []), [(15, .int 0, .float 0)], [some (.ref 15), some (.int 0), none, none, none, none], [(1, 15, .int 0)], [(false, .int 20000), (false, .int 0)], [])
noncomputable def ax_c_53_1 : ax_ct := (8, (4, [(236, 243), (0, 80), ((-2147483648), 2147483647), (0, 0)], [], [], []), [(15, .int 0, .float 3)], [some (.ref 15), some (.retAddr 0), some (.retAddr 1), some (.retAddr 2), none, none], [(0, 1, .int 0), (0, 2, .int 0), (0, 3, .int 0), (1, 15, .int 0)], [(false, .int 9992), (true, .retAddr 2)], [])
noncomputable def ax_t_53 : List ax_ct := [ax_c_53_0, ax_c_53_1]
noncomputable def ax_w_53 : ax_D := ([(15, 2), (15, 3)], [])
noncomputable def ax_p_53 : ax_po := (some (some ((-2147483648), 2147483647)), [], false, false, [])
noncomputable def ax_s_53 : ax_s9 := (70, ax_sumc ax_sp ax_c_53_0 36, ax_w_53, ax_p_53)
noncomputable def ax_l_53 : ax_Y := [ax_s_52]
set_option maxRecDepth 1000000 in
theorem ax_k_53_0 : ax_cr9 ax_w_53 ax_l_53 ax_t_53 70 36 40000 ax_p_53 ax_c_53_0 = true := by decide +kernel
set_option maxRecDepth 1000000 in
theorem ax_k_53_1 : ax_cr9 ax_w_53 ax_l_53 ax_t_53 70 36 40000 ax_p_53 ax_c_53_1 = true := by decide +kernel
theorem ax_y_53 {X : Nat × (Nat → Int32)} : ax_Y1 X ax_sp ax_rf ax_s_53 := ax_meth9 (c := ax_c_53_0) (T := ax_t_53) (ax_Yc ax_y_52 ax_Yn) ⟨ax_k_53_0, ⟨ax_k_53_1, trivial⟩⟩ List.mem_cons_self rfl
/-! .fault ('fault', 0) -/
noncomputable def ax_c_54_0 : ax_ct := (0, (1, [((-2147483648), 2147483647)], [], [], []), [], [some (.ref 0), some (.retAddr 0), none], [(0, 1, .int 0)], [], [])
noncomputable def ax_t_54 : List ax_ct := [ax_c_54_0]
noncomputable def ax_w_54 : ax_D := ([(15, 0), (15, 1), (15, 2), (15, 3)], [])
noncomputable def ax_p_54 : ax_po := (some (some ((-15), 80)), [], false, false, [])
noncomputable def ax_s_54 : ax_s9 := (111, ax_sumc ax_sp ax_c_54_0 38, ax_w_54, ax_p_54)
noncomputable def ax_l_54 : ax_Y := [ax_s_53]
set_option maxRecDepth 1000000 in
theorem ax_k_54_0 : ax_cr9 ax_w_54 ax_l_54 ax_t_54 111 38 40000 ax_p_54 ax_c_54_0 = true := by decide +kernel
theorem ax_y_54 {X : Nat × (Nat → Int32)} : ax_Y1 X ax_sp ax_rf ax_s_54 := ax_meth9 (c := ax_c_54_0) (T := ax_t_54) (ax_Yc ax_y_53 ax_Yn) ⟨ax_k_54_0, trivial⟩ List.mem_cons_self rfl
/-! Model.bring ((),) -/
noncomputable def ax_c_55_0 : ax_ct := (0, (1, [(0, 7)], [], [], []), [], [some (.ref 244), some (.retAddr 0), none], [(0, 1, .int 0)], [(false, .int 20000), (false, .int 0)], [])
noncomputable def ax_c_55_1 : ax_ct := (16, (2, [(0, 80), (0, 7)], [], [], []), [], [some (.ref 244), some (.retAddr 0), some (.retAddr 1)], [(0, 1, .int 0), (0, 2, .int 0)], [(false, .int 9984), (true, .retAddr 1)], [])
noncomputable def ax_t_55 : List ax_ct := [ax_c_55_0, ax_c_55_1]
noncomputable def ax_w_55 : ax_D := ([], [(257, 258)])
noncomputable def ax_p_55 : ax_po := (none, [], false, false, [])
noncomputable def ax_s_55 : ax_s9 := (182, ax_sumc ax_sp ax_c_55_0 1, ax_w_55, ax_p_55)
noncomputable def ax_l_55 : ax_Y := []
set_option maxRecDepth 1000000 in
theorem ax_k_55_0 : ax_cr9 ax_w_55 ax_l_55 ax_t_55 182 1 40000 ax_p_55 ax_c_55_0 = true := by decide +kernel
set_option maxRecDepth 1000000 in
theorem ax_k_55_1 : ax_cr9 ax_w_55 ax_l_55 ax_t_55 182 1 40000 ax_p_55 ax_c_55_1 = true := by decide +kernel
theorem ax_y_55 {X : Nat × (Nat → Int32)} : ax_Y1 X ax_sp ax_rf ax_s_55 := ax_meth9 (c := ax_c_55_0) (T := ax_t_55) ax_Yn ⟨ax_k_55_0, ⟨ax_k_55_1, trivial⟩⟩ List.mem_cons_self rfl
/-! Model.total ((),) -/
noncomputable def ax_c_56_0 : ax_ct := (0, (0, [], [], [], []), [], [some (.ref 244)], [], [], [])
noncomputable def ax_t_56 : List ax_ct := [ax_c_56_0]
noncomputable def ax_w_56 : ax_D := ([], [])
noncomputable def ax_p_56 : ax_po := (some (some ((-2147483648), 2147483647)), [], false, false, [])
noncomputable def ax_s_56 : ax_s9 := (175, ax_sumc ax_sp ax_c_56_0 1, ax_w_56, ax_p_56)
noncomputable def ax_l_56 : ax_Y := []
set_option maxRecDepth 1000000 in
theorem ax_k_56_0 : ax_cr9 ax_w_56 ax_l_56 ax_t_56 175 1 40000 ax_p_56 ax_c_56_0 = true := by decide +kernel
theorem ax_y_56 {X : Nat × (Nat → Int32)} : ax_Y1 X ax_sp ax_rf ax_s_56 := ax_meth9 (c := ax_c_56_0) (T := ax_t_56) ax_Yn ⟨ax_k_56_0, trivial⟩ List.mem_cons_self rfl
/-! Model.atom ((),) -/
noncomputable def ax_c_57_0 : ax_ct := (0, (1, [((-2147483648), 2147483647)], [], [], []), [], [some (.ref 244), some (.retAddr 0)], [(0, 1, .int 0)], [], [])
noncomputable def ax_t_57 : List ax_ct := [ax_c_57_0]
noncomputable def ax_w_57 : ax_D := ([], [(262, 262)])
noncomputable def ax_p_57 : ax_po := (none, [], false, false, [])
noncomputable def ax_s_57 : ax_s9 := (174, ax_sumc ax_sp ax_c_57_0 1, ax_w_57, ax_p_57)
noncomputable def ax_l_57 : ax_Y := []
set_option maxRecDepth 1000000 in
theorem ax_k_57_0 : ax_cr9 ax_w_57 ax_l_57 ax_t_57 174 1 40000 ax_p_57 ax_c_57_0 = true := by decide +kernel
theorem ax_y_57 {X : Nat × (Nat → Int32)} : ax_Y1 X ax_sp ax_rf ax_s_57 := ax_meth9 (c := ax_c_57_0) (T := ax_t_57) ax_Yn ⟨ax_k_57_0, trivial⟩ List.mem_cons_self rfl
