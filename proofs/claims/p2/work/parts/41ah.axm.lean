/-! Model.ring ('ring', 4) -/
noncomputable def ax_c_96_0 : ax_ct := (0, (2, [((-2147483648), 2147483647), (2, 2)], [], [], []), [], [some (.ref 244), some (.retAddr 0), some (.retAddr 1), none], [(0, 1, .int 0), (0, 2, .int 0)], [], [])
noncomputable def ax_t_96 : List ax_ct := [ax_c_96_0]
noncomputable def ax_w_96 : ax_D := ([(244, 7)], [(249, 256)])
noncomputable def ax_p_96 : ax_po := (some (some ((-15), 149)), [], false, false, [])
noncomputable def ax_s_96 : ax_s9 := (192, ax_sumc ax_sp ax_c_96_0 3, ax_w_96, ax_p_96)
noncomputable def ax_l_96 : ax_Y := [ax_s_75]
set_option maxRecDepth 1000000 in
theorem ax_k_96_0 : ax_cr9 ax_w_96 ax_l_96 ax_t_96 192 3 40000 ax_p_96 ax_c_96_0 = true := by decide +kernel
theorem ax_y_96 {X : Nat × (Nat → Int32)} : ax_Y1 X ax_sp ax_rf ax_s_96 := ax_meth9 (c := ax_c_96_0) (T := ax_t_96) (ax_Yc ax_y_75 ax_Yn) ⟨ax_k_96_0, trivial⟩ List.mem_cons_self rfl
/-! Model.ring ('ring', 5) -/
noncomputable def ax_c_97_0 : ax_ct := (0, (2, [((-2147483648), 2147483647), (3, 3)], [], [], []), [], [some (.ref 244), some (.retAddr 0), some (.retAddr 1), none], [(0, 1, .int 0), (0, 2, .int 0)], [], [])
noncomputable def ax_t_97 : List ax_ct := [ax_c_97_0]
noncomputable def ax_w_97 : ax_D := ([(244, 7)], [(249, 256)])
noncomputable def ax_p_97 : ax_po := (some (some ((-15), 149)), [], false, false, [])
noncomputable def ax_s_97 : ax_s9 := (192, ax_sumc ax_sp ax_c_97_0 3, ax_w_97, ax_p_97)
noncomputable def ax_l_97 : ax_Y := [ax_s_75]
set_option maxRecDepth 1000000 in
theorem ax_k_97_0 : ax_cr9 ax_w_97 ax_l_97 ax_t_97 192 3 40000 ax_p_97 ax_c_97_0 = true := by decide +kernel
theorem ax_y_97 {X : Nat × (Nat → Int32)} : ax_Y1 X ax_sp ax_rf ax_s_97 := ax_meth9 (c := ax_c_97_0) (T := ax_t_97) (ax_Yc ax_y_75 ax_Yn) ⟨ax_k_97_0, trivial⟩ List.mem_cons_self rfl
