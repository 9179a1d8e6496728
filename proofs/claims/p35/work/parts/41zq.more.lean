/-! summaries of the row alone -/
/-! java/util/Arrays.fill ('fill', 320) -/
noncomputable def ax_c_320_0 : ax_ct := (0, (2, [(0, 0), (236, 243)], [], [], []), [], [some (.float 0), some (.retAddr 1), none, none], [(0, 0, .int 0), (0, 1, .int 0)], [], [])
noncomputable def ax_t_320 : List ax_ct := [ax_c_320_0]
noncomputable def ax_w_320 : ax_D := ([], [(236, 243)])
noncomputable def ax_p_320 : ax_po := (none, [], false, false, [])
noncomputable def ax_s_320 : ax_s9 := (246, ax_sumc ax_sp ax_c_320_0 1, ax_w_320, ax_p_320)
noncomputable def ax_l_320 : ax_Y := []
set_option maxRecDepth 1000000 in
theorem ax_k_320_0 : ax_cr9 ax_w_320 ax_l_320 ax_t_320 246 1 40000 ax_p_320 ax_c_320_0 = true := by decide +kernel
theorem ax_y_320 {X : Nat × (Nat → Int32)} : ax_Y1 X ax_sp ax_rf ax_s_320 := ax_meth9 (c := ax_c_320_0) (T := ax_t_320) ax_Yn ⟨ax_k_320_0, trivial⟩ List.mem_cons_self rfl
