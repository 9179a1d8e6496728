/-! .proves ('proves', 0) -/
noncomputable def ax_c_200_0 : ax_ct := (0, (1, [((-2147483648), 2147483647)], [], [], []), [], [some (.ref 0), some (.retAddr 0), none], [(0, 1, .int 0)], [], [])
noncomputable def ax_t_200 : List ax_ct := [ax_c_200_0]
noncomputable def ax_w_200 : ax_D := ([(15, 0), (15, 1), (15, 2), (15, 3), (15, 4), (15, 5), (15, 6), (15, 7), (15, 8), (15, 9), (15, 10)], [(178, 179), (182, 193), (199, 213)])
noncomputable def ax_p_200 : ax_po := (some (some ((-15), 1)), [], false, false, [])
noncomputable def ax_s_200 : ax_s9 := (128, ax_sumc ax_sp ax_c_200_0 41, ax_w_200, ax_p_200)
noncomputable def ax_l_200 : ax_Y := [ax_s_191, ax_s_193, ax_s_190, ax_s_155, ax_s_192, ax_s_185]
set_option maxRecDepth 1000000 in
theorem ax_k_200_0 : ax_cr9 ax_w_200 ax_l_200 ax_t_200 128 41 40000 ax_p_200 ax_c_200_0 = true := by decide +kernel
theorem ax_y_200 {X : Nat × (Nat → Int32)} : ax_Y1 X ax_sp ax_rf ax_s_200 := ax_meth9 (c := ax_c_200_0) (T := ax_t_200) (ax_Yc ax_y_191 (ax_Yc ax_y_193 (ax_Yc ax_y_190 (ax_Yc ax_y_155 (ax_Yc ax_y_192 (ax_Yc ax_y_185 ax_Yn)))))) ⟨ax_k_200_0, trivial⟩ List.mem_cons_self rfl
/-! Model.proves ('proves', 0) -/
noncomputable def ax_c_201_0 : ax_ct := (0, (1, [((-2147483648), 2147483647)], [], [], []), [], [some (.ref 244), some (.retAddr 0)], [(0, 1, .int 0)], [], [])
noncomputable def ax_t_201 : List ax_ct := [ax_c_201_0]
noncomputable def ax_w_201 : ax_D := ([(244, 19), (244, 20), (244, 21), (244, 30)], [(259, 268), (270, 273)])
noncomputable def ax_p_201 : ax_po := (some (some ((-15), 1)), [], false, false, [])
noncomputable def ax_s_201 : ax_s9 := (221, ax_sumc ax_sp ax_c_201_0 9, ax_w_201, ax_p_201)
noncomputable def ax_l_201 : ax_Y := [ax_s_188, ax_s_197, ax_s_195, ax_s_198, ax_s_196]
set_option maxRecDepth 1000000 in
theorem ax_k_201_0 : ax_cr9 ax_w_201 ax_l_201 ax_t_201 221 9 40000 ax_p_201 ax_c_201_0 = true := by decide +kernel
theorem ax_y_201 {X : Nat × (Nat → Int32)} (hm : ax_Y1 X ax_sp ax_rf ax_s_188) : ax_Y1 X ax_sp ax_rf ax_s_201 := ax_meth9 (c := ax_c_201_0) (T := ax_t_201) (ax_Yc hm (ax_Yc ax_y_197 (ax_Yc ax_y_195 (ax_Yc ax_y_198 (ax_Yc ax_y_196 ax_Yn))))) ⟨ax_k_201_0, trivial⟩ List.mem_cons_self rfl
/-! .need ('need', 0) -/
noncomputable def ax_c_202_0 : ax_ct := (0, (4, [((-2147483648), 2147483647), ((-2147483648), 2147483647), ((-2147483648), 2147483647), ((-2147483648), 2147483647)], [], [], []), [], [some (.ref 0), some (.retAddr 0), some (.retAddr 1), some (.retAddr 2), some (.retAddr 3)], [(0, 1, .int 0), (0, 2, .int 0), (0, 3, .int 0), (0, 4, .int 0)], [], [])
noncomputable def ax_t_202 : List ax_ct := [ax_c_202_0]
noncomputable def ax_w_202 : ax_D := ([(214, 8)], [(215, 218)])
noncomputable def ax_p_202 : ax_po := (some (some ((-4), 29)), [], false, false, [])
noncomputable def ax_s_202 : ax_s9 := (129, ax_sumc ax_sp ax_c_202_0 2, ax_w_202, ax_p_202)
noncomputable def ax_l_202 : ax_Y := []
set_option maxRecDepth 1000000 in
theorem ax_k_202_0 : ax_cr9 ax_w_202 ax_l_202 ax_t_202 129 2 40000 ax_p_202 ax_c_202_0 = true := by decide +kernel
theorem ax_y_202 {X : Nat × (Nat → Int32)} : ax_Y1 X ax_sp ax_rf ax_s_202 := ax_meth9 (c := ax_c_202_0) (T := ax_t_202) ax_Yn ⟨ax_k_202_0, trivial⟩ List.mem_cons_self rfl
/-! Model.need ('need', 0) -/
noncomputable def ax_c_203_0 : ax_ct := (0, (4, [((-2147483648), 2147483647), ((-2147483648), 2147483647), ((-2147483648), 2147483647), ((-2147483648), 2147483647)], [], [], []), [], [some (.ref 244), some (.retAddr 0), some (.retAddr 1), some (.retAddr 2), some (.retAddr 3)], [(0, 1, .int 0), (0, 2, .int 0), (0, 3, .int 0), (0, 4, .int 0)], [], [])
noncomputable def ax_t_203 : List ax_ct := [ax_c_203_0]
noncomputable def ax_w_203 : ax_D := ([(244, 38)], [(274, 278)])
noncomputable def ax_p_203 : ax_po := (some (some ((-4), 29)), [], false, false, [])
noncomputable def ax_s_203 : ax_s9 := (223, ax_sumc ax_sp ax_c_203_0 3, ax_w_203, ax_p_203)
noncomputable def ax_l_203 : ax_Y := [ax_s_75]
set_option maxRecDepth 1000000 in
theorem ax_k_203_0 : ax_cr9 ax_w_203 ax_l_203 ax_t_203 223 3 40000 ax_p_203 ax_c_203_0 = true := by decide +kernel
theorem ax_y_203 {X : Nat × (Nat → Int32)} : ax_Y1 X ax_sp ax_rf ax_s_203 := ax_meth9 (c := ax_c_203_0) (T := ax_t_203) (ax_Yc ax_y_75 ax_Yn) ⟨ax_k_203_0, trivial⟩ List.mem_cons_self rfl
/-! $Book.addGiven ((),) -/
noncomputable def ax_c_204_0 : ax_ct := (0, (3, [(0, 150), (0, 12), (0, 520)], [], [], []), [(14, .int 16, .retAddr 2), (1, .int 4, .retAddr 1)], [some (.ref 14), some (.retAddr 0), some (.ref 220), none], [(0, 1, .int 0), (1, 1, .int 4), (1, 14, .int 16)], [(false, .int 20000), (false, .int 0)], [])
noncomputable def ax_c_204_1 : ax_ct := (2, (4, [(0, 150), (0, 12), (0, 150), (0, 520)], [], [], [(1, 3, 0)]), [(14, .int 16, .retAddr 3), (1, .int 4, .retAddr 2)], [some (.ref 14), some (.retAddr 0), some (.ref 220), some (.retAddr 1)], [(0, 1, .int 0), (0, 3, .int 0), (1, 1, .int 4), (1, 14, .int 16)], [(false, .int 9998), (true, .retAddr 1)], [])
noncomputable def ax_t_204 : List ax_ct := [ax_c_204_0, ax_c_204_1]
noncomputable def ax_w_204 : ax_D := ([], [(220, 220)])
noncomputable def ax_p_204 : ax_po := (none, [], false, false, [])
noncomputable def ax_s_204 : ax_s9 := (32, ax_sumc ax_sp ax_c_204_0 1, ax_w_204, ax_p_204)
noncomputable def ax_l_204 : ax_Y := []
set_option maxRecDepth 1000000 in
theorem ax_k_204_0 : ax_cr9 ax_w_204 ax_l_204 ax_t_204 32 1 40000 ax_p_204 ax_c_204_0 = true := by decide +kernel
set_option maxRecDepth 1000000 in
theorem ax_k_204_1 : ax_cr9 ax_w_204 ax_l_204 ax_t_204 32 1 40000 ax_p_204 ax_c_204_1 = true := by decide +kernel
theorem ax_y_204 {X : Nat × (Nat → Int32)} : ax_Y1 X ax_sp ax_rf ax_s_204 := ax_meth9 (c := ax_c_204_0) (T := ax_t_204) ax_Yn ⟨ax_k_204_0, ⟨ax_k_204_1, trivial⟩⟩ List.mem_cons_self rfl
/-! $Needs.lookUpGiven ((),) -/
noncomputable def ax_c_205_0 : ax_ct := (0, (2, [(0, 12), (0, 520)], [], [], []), [(1, .int 4, .retAddr 1)], [some (.ref 214), some (.retAddr 0)], [(0, 1, .int 0), (1, 1, .int 4)], [], [])
noncomputable def ax_t_205 : List ax_ct := [ax_c_205_0]
noncomputable def ax_w_205 : ax_D := ([], [(220, 220)])
noncomputable def ax_p_205 : ax_po := (none, [], false, false, [])
noncomputable def ax_s_205 : ax_s9 := (60, ax_sumc ax_sp ax_c_205_0 2, ax_w_205, ax_p_205)
noncomputable def ax_l_205 : ax_Y := [ax_s_204]
set_option maxRecDepth 1000000 in
theorem ax_k_205_0 : ax_cr9 ax_w_205 ax_l_205 ax_t_205 60 2 40000 ax_p_205 ax_c_205_0 = true := by decide +kernel
theorem ax_y_205 {X : Nat × (Nat → Int32)} : ax_Y1 X ax_sp ax_rf ax_s_205 := ax_meth9 (c := ax_c_205_0) (T := ax_t_205) (ax_Yc ax_y_204 ax_Yn) ⟨ax_k_205_0, trivial⟩ List.mem_cons_self rfl
/-! .free ('free', 0) -/
noncomputable def ax_c_206_0 : ax_ct := (0, (2, [((-2147483648), 2147483647), ((-2147483648), 2147483647)], [], [], []), [], [some (.ref 0), some (.retAddr 0), some (.retAddr 1)], [(0, 1, .int 0), (0, 2, .int 0)], [], [])
noncomputable def ax_t_206 : List ax_ct := [ax_c_206_0]
noncomputable def ax_w_206 : ax_D := ([], [(220, 220)])
noncomputable def ax_p_206 : ax_po := (some (some ((-1), 2147483647)), [], false, false, [])
noncomputable def ax_s_206 : ax_s9 := (130, ax_sumc ax_sp ax_c_206_0 4, ax_w_206, ax_p_206)
noncomputable def ax_l_206 : ax_Y := [ax_s_2, ax_s_205]
set_option maxRecDepth 1000000 in
theorem ax_k_206_0 : ax_cr9 ax_w_206 ax_l_206 ax_t_206 130 4 40000 ax_p_206 ax_c_206_0 = true := by decide +kernel
theorem ax_y_206 {X : Nat × (Nat → Int32)} : ax_Y1 X ax_sp ax_rf ax_s_206 := ax_meth9 (c := ax_c_206_0) (T := ax_t_206) (ax_Yc ax_y_2 (ax_Yc ax_y_205 ax_Yn)) ⟨ax_k_206_0, trivial⟩ List.mem_cons_self rfl
/-! Model.freeOf ((),) -/
noncomputable def ax_c_207_0 : ax_ct := (0, (3, [(0, 12), (0, 520), (0, 11)], [], [], [(0, 2, 1)]), [(244, .int 1, .retAddr 2)], [some (.ref 244), some (.retAddr 0), some (.retAddr 1), none, none], [(0, 1, .int 0), (0, 2, .int 0), (1, 244, .int 1)], [(false, .int 20000), (false, .int 0)], [])
noncomputable def ax_c_207_1 : ax_ct := (14, (5, [(0, 12), (0, 150), ((-2147483648), 2147483647), (0, 520), (0, 11)], [], [], [(0, 4, 1)]), [(244, .int 1, .retAddr 4)], [some (.ref 244), some (.retAddr 0), some (.retAddr 1), some (.retAddr 2), some (.retAddr 3)], [(0, 1, .int 0), (0, 2, .int 0), (0, 3, .int 0), (0, 4, .int 0), (1, 244, .int 1)], [(false, .int 9986), (true, .retAddr 3)], [])
noncomputable def ax_t_207 : List ax_ct := [ax_c_207_0, ax_c_207_1]
noncomputable def ax_w_207 : ax_D := ([], [])
noncomputable def ax_p_207 : ax_po := (some (some (0, 2147483647)), [], false, false, [])
noncomputable def ax_s_207 : ax_s9 := (224, ax_sumc ax_sp ax_c_207_0 2, ax_w_207, ax_p_207)
noncomputable def ax_l_207 : ax_Y := [ax_s_7]
set_option maxRecDepth 1000000 in
theorem ax_k_207_0 : ax_cr9 ax_w_207 ax_l_207 ax_t_207 224 2 40000 ax_p_207 ax_c_207_0 = true := by decide +kernel
set_option maxRecDepth 1000000 in
theorem ax_k_207_1 : ax_cr9 ax_w_207 ax_l_207 ax_t_207 224 2 40000 ax_p_207 ax_c_207_1 = true := by decide +kernel
theorem ax_y_207 {X : Nat × (Nat → Int32)} : ax_Y1 X ax_sp ax_rf ax_s_207 := ax_meth9 (c := ax_c_207_0) (T := ax_t_207) (ax_Yc ax_y_7 ax_Yn) ⟨ax_k_207_0, ⟨ax_k_207_1, trivial⟩⟩ List.mem_cons_self rfl
/-! Model.free ('free', 0) -/
noncomputable def ax_c_208_0 : ax_ct := (0, (2, [((-2147483648), 2147483647), ((-2147483648), 2147483647)], [], [], []), [], [some (.ref 244), some (.retAddr 0), some (.retAddr 1)], [(0, 1, .int 0), (0, 2, .int 0)], [], [])
noncomputable def ax_t_208 : List ax_ct := [ax_c_208_0]
noncomputable def ax_w_208 : ax_D := ([], [])
noncomputable def ax_p_208 : ax_po := (some (some ((-1), 2147483647)), [], false, false, [])
noncomputable def ax_s_208 : ax_s9 := (225, ax_sumc ax_sp ax_c_208_0 3, ax_w_208, ax_p_208)
noncomputable def ax_l_208 : ax_Y := [ax_s_207]
set_option maxRecDepth 1000000 in
theorem ax_k_208_0 : ax_cr9 ax_w_208 ax_l_208 ax_t_208 225 3 40000 ax_p_208 ax_c_208_0 = true := by decide +kernel
theorem ax_y_208 {X : Nat × (Nat → Int32)} : ax_Y1 X ax_sp ax_rf ax_s_208 := ax_meth9 (c := ax_c_208_0) (T := ax_t_208) (ax_Yc ax_y_207 ax_Yn) ⟨ax_k_208_0, trivial⟩ List.mem_cons_self rfl
/-! $Needs.ableFor ((),) -/
noncomputable def ax_c_209_0 : ax_ct := (0, (1, [(0, 29)], [], [], []), [], [some (.ref 214), some (.retAddr 0), none, none, none], [(0, 1, .int 0)], [(false, .int 20000), (false, .int 0)], [])
noncomputable def ax_c_209_1 : ax_ct := (64, (4, [(0, 12), ((-2147483648), 2147483647), ((-2147483648), 2147483647), (0, 29)], [], [], []), [], [some (.ref 214), some (.retAddr 0), some (.retAddr 1), some (.retAddr 2), some (.retAddr 3)], [(0, 1, .int 0), (0, 2, .int 0), (0, 3, .int 0), (0, 4, .int 0)], [(false, .int 9936), (true, .retAddr 3)], [])
noncomputable def ax_t_209 : List ax_ct := [ax_c_209_0, ax_c_209_1]
noncomputable def ax_w_209 : ax_D := ([], [(220, 220)])
noncomputable def ax_p_209 : ax_po := (some (some ((-2147483648), 2147483647)), [], false, false, [])
noncomputable def ax_s_209 : ax_s9 := (62, ax_sumc ax_sp ax_c_209_0 4, ax_w_209, ax_p_209)
noncomputable def ax_l_209 : ax_Y := [ax_s_205, ax_s_12, ax_s_2]
set_option maxRecDepth 1000000 in
theorem ax_k_209_0 : ax_cr9 ax_w_209 ax_l_209 ax_t_209 62 4 40000 ax_p_209 ax_c_209_0 = true := by decide +kernel
set_option maxRecDepth 1000000 in
theorem ax_k_209_1 : ax_cr9 ax_w_209 ax_l_209 ax_t_209 62 4 40000 ax_p_209 ax_c_209_1 = true := by decide +kernel
theorem ax_y_209 {X : Nat × (Nat → Int32)} : ax_Y1 X ax_sp ax_rf ax_s_209 := ax_meth9 (c := ax_c_209_0) (T := ax_t_209) (ax_Yc ax_y_205 (ax_Yc ax_y_12 (ax_Yc ax_y_2 ax_Yn))) ⟨ax_k_209_0, ⟨ax_k_209_1, trivial⟩⟩ List.mem_cons_self rfl
/-! .could ('could', 0) -/
noncomputable def ax_c_210_0 : ax_ct := (0, (1, [((-2147483648), 2147483647)], [], [], []), [], [some (.ref 0), some (.retAddr 0), none], [(0, 1, .int 0)], [], [])
noncomputable def ax_t_210 : List ax_ct := [ax_c_210_0]
noncomputable def ax_w_210 : ax_D := ([], [(220, 220)])
noncomputable def ax_p_210 : ax_po := (some (some ((-2147483648), 2147483647)), [], false, false, [])
noncomputable def ax_s_210 : ax_s9 := (131, ax_sumc ax_sp ax_c_210_0 5, ax_w_210, ax_p_210)
noncomputable def ax_l_210 : ax_Y := [ax_s_209]
set_option maxRecDepth 1000000 in
theorem ax_k_210_0 : ax_cr9 ax_w_210 ax_l_210 ax_t_210 131 5 40000 ax_p_210 ax_c_210_0 = true := by decide +kernel
theorem ax_y_210 {X : Nat × (Nat → Int32)} : ax_Y1 X ax_sp ax_rf ax_s_210 := ax_meth9 (c := ax_c_210_0) (T := ax_t_210) (ax_Yc ax_y_209 ax_Yn) ⟨ax_k_210_0, trivial⟩ List.mem_cons_self rfl
/-! Model.couldOf ((),) -/
noncomputable def ax_c_211_0 : ax_ct := (0, (1, [(0, 29)], [], [], []), [], [some (.ref 244), some (.retAddr 0), none, none, none], [(0, 1, .int 0)], [(false, .int 20000), (false, .int 0)], [])
noncomputable def ax_c_211_1 : ax_ct := (42, (4, [(0, 12), ((-2147483648), 2147483647), ((-2147483648), 2147483647), (0, 29)], [], [], []), [], [some (.ref 244), some (.retAddr 0), some (.retAddr 1), some (.retAddr 2), some (.retAddr 3)], [(0, 1, .int 0), (0, 2, .int 0), (0, 3, .int 0), (0, 4, .int 0)], [(false, .int 9958), (true, .retAddr 3)], [])
noncomputable def ax_t_211 : List ax_ct := [ax_c_211_0, ax_c_211_1]
noncomputable def ax_w_211 : ax_D := ([], [])
noncomputable def ax_p_211 : ax_po := (some (some ((-2147483648), 2147483647)), [], false, false, [])
noncomputable def ax_s_211 : ax_s9 := (226, ax_sumc ax_sp ax_c_211_0 3, ax_w_211, ax_p_211)
noncomputable def ax_l_211 : ax_Y := [ax_s_75, ax_s_14, ax_s_207]
set_option maxRecDepth 1000000 in
theorem ax_k_211_0 : ax_cr9 ax_w_211 ax_l_211 ax_t_211 226 3 40000 ax_p_211 ax_c_211_0 = true := by decide +kernel
set_option maxRecDepth 1000000 in
theorem ax_k_211_1 : ax_cr9 ax_w_211 ax_l_211 ax_t_211 226 3 40000 ax_p_211 ax_c_211_1 = true := by decide +kernel
theorem ax_y_211 {X : Nat × (Nat → Int32)} : ax_Y1 X ax_sp ax_rf ax_s_211 := ax_meth9 (c := ax_c_211_0) (T := ax_t_211) (ax_Yc ax_y_75 (ax_Yc ax_y_14 (ax_Yc ax_y_207 ax_Yn))) ⟨ax_k_211_0, ⟨ax_k_211_1, trivial⟩⟩ List.mem_cons_self rfl
/-! Model.could ('could', 0) -/
noncomputable def ax_c_212_0 : ax_ct := (0, (1, [((-2147483648), 2147483647)], [], [], []), [], [some (.ref 244), some (.retAddr 0)], [(0, 1, .int 0)], [], [])
noncomputable def ax_t_212 : List ax_ct := [ax_c_212_0]
noncomputable def ax_w_212 : ax_D := ([], [])
noncomputable def ax_p_212 : ax_po := (some (some ((-2147483648), 2147483647)), [], false, false, [])
noncomputable def ax_s_212 : ax_s9 := (227, ax_sumc ax_sp ax_c_212_0 4, ax_w_212, ax_p_212)
noncomputable def ax_l_212 : ax_Y := [ax_s_211]
set_option maxRecDepth 1000000 in
theorem ax_k_212_0 : ax_cr9 ax_w_212 ax_l_212 ax_t_212 227 4 40000 ax_p_212 ax_c_212_0 = true := by decide +kernel
theorem ax_y_212 {X : Nat × (Nat → Int32)} : ax_Y1 X ax_sp ax_rf ax_s_212 := ax_meth9 (c := ax_c_212_0) (T := ax_t_212) (ax_Yc ax_y_211 ax_Yn) ⟨ax_k_212_0, trivial⟩ List.mem_cons_self rfl
/-! .best ('best', 0) -/
noncomputable def ax_c_213_0 : ax_ct := (0, (1, [((-2147483648), 2147483647)], [], [], []), [], [some (.ref 0), some (.retAddr 0), none, none, none], [(0, 1, .int 0)], [(false, .int 20000), (false, .int 0)], [])
noncomputable def ax_c_213_1 : ax_ct := (22, (6, [(0, 150), (1, 12), (1, 12), (0, 11), (0, 2147483647), (0, 29)], [], [], [(3, 4, 0), (2, 4, 1), (2, 3, 1)]), [(14, .int 16, .retAddr 5), (1, .int 4, .retAddr 4)], [some (.ref 0), some (.retAddr 0), some (.retAddr 1), some (.retAddr 2), some (.retAddr 3)], [(0, 1, .int 0), (0, 2, .int 0), (0, 3, .int 0), (0, 4, .int 0), (1, 1, .int 4), (1, 14, .int 16)], [(false, .int 9978), (true, .retAddr 3)], [])
noncomputable def ax_c_213_2 : ax_ct := (22, (5, [(0, 150), (0, 12), ((-4), (-4)), (0, 2147483647), (0, 29)], [], [], []), [(14, .int 16, .retAddr 4)], [some (.ref 0), some (.retAddr 0), some (.retAddr 1), some (.retAddr 2), some (.retAddr 3)], [(0, 1, .int 0), (0, 2, .int 0), (0, 3, .int 0), (0, 4, .int 0), (1, 14, .int 16)], [(false, .int 9978), (true, .retAddr 3)], [])
noncomputable def ax_t_213 : List ax_ct := [ax_c_213_0, ax_c_213_1, ax_c_213_2]
noncomputable def ax_w_213 : ax_D := ([(15, 0), (15, 1), (15, 2), (15, 3), (15, 4), (15, 5), (15, 6), (15, 7), (15, 8), (15, 9), (15, 10)], [(178, 179), (182, 193), (220, 220)])
noncomputable def ax_p_213 : ax_po := (some (some ((-2147483648), 11)), [], false, false, [])
noncomputable def ax_s_213 : ax_s9 := (132, ax_sumc ax_sp ax_c_213_0 41, ax_w_213, ax_p_213)
noncomputable def ax_l_213 : ax_Y := [ax_s_155, ax_s_209]
set_option maxRecDepth 1000000 in
theorem ax_k_213_0 : ax_cr9 ax_w_213 ax_l_213 ax_t_213 132 41 40000 ax_p_213 ax_c_213_0 = true := by decide +kernel
set_option maxRecDepth 1000000 in
theorem ax_k_213_1 : ax_cr9 ax_w_213 ax_l_213 ax_t_213 132 41 40000 ax_p_213 ax_c_213_1 = true := by decide +kernel
set_option maxRecDepth 1000000 in
theorem ax_k_213_2 : ax_cr9 ax_w_213 ax_l_213 ax_t_213 132 41 40000 ax_p_213 ax_c_213_2 = true := by decide +kernel
theorem ax_y_213 {X : Nat × (Nat → Int32)} : ax_Y1 X ax_sp ax_rf ax_s_213 := ax_meth9 (c := ax_c_213_0) (T := ax_t_213) (ax_Yc ax_y_155 (ax_Yc ax_y_209 ax_Yn)) ⟨ax_k_213_0, ⟨ax_k_213_1, ⟨ax_k_213_2, trivial⟩⟩⟩ List.mem_cons_self rfl
/-! Model.best ('best', 0) -/
noncomputable def ax_c_214_0 : ax_ct := (0, (1, [((-2147483648), 2147483647)], [], [], []), [], [some (.ref 244), some (.retAddr 0), none, none, none], [(0, 1, .int 0)], [(false, .int 20000), (false, .int 0)], [])
noncomputable def ax_c_214_1 : ax_ct := (47, (5, [(0, 150), (0, 12), ((-4), 11), ((-2147483648), 2147483647), (0, 29)], [], [], [(2, 3, 1)]), [(244, .int 7, .retAddr 4)], [some (.ref 244), some (.retAddr 0), some (.retAddr 1), some (.retAddr 2), some (.retAddr 3)], [(0, 1, .int 0), (0, 2, .int 0), (0, 3, .int 0), (0, 4, .int 0), (1, 244, .int 7)], [(false, .int 9953), (true, .retAddr 3)], [])
noncomputable def ax_t_214 : List ax_ct := [ax_c_214_0, ax_c_214_1]
noncomputable def ax_w_214 : ax_D := ([(244, 19), (244, 20), (244, 21), (244, 30)], [(259, 268)])
noncomputable def ax_p_214 : ax_po := (some (some ((-4), 11)), [], false, false, [])
noncomputable def ax_s_214 : ax_s9 := (228, ax_sumc ax_sp ax_c_214_0 8, ax_w_214, ax_p_214)
noncomputable def ax_l_214 : ax_Y := [ax_s_158, ax_s_211]
set_option maxRecDepth 1000000 in
theorem ax_k_214_0 : ax_cr9 ax_w_214 ax_l_214 ax_t_214 228 8 40000 ax_p_214 ax_c_214_0 = true := by decide +kernel
set_option maxRecDepth 1000000 in
theorem ax_k_214_1 : ax_cr9 ax_w_214 ax_l_214 ax_t_214 228 8 40000 ax_p_214 ax_c_214_1 = true := by decide +kernel
theorem ax_y_214 {X : Nat × (Nat → Int32)} : ax_Y1 X ax_sp ax_rf ax_s_214 := ax_meth9 (c := ax_c_214_0) (T := ax_t_214) (ax_Yc ax_y_158 (ax_Yc ax_y_211 ax_Yn)) ⟨ax_k_214_0, ⟨ax_k_214_1, trivial⟩⟩ List.mem_cons_self rfl
/-! .meet ('meet', 0) -/
noncomputable def ax_c_215_0 : ax_ct := (0, (4, [(0, 150), (0, 150), ((-2147483648), 2147483647), ((-2147483648), 2147483647)], [], [], [(2, 3, 0)]), [(14, .int 16, .retAddr 3), (14, .int 12, .retAddr 2)], [some (.ref 0), some (.retAddr 0), some (.retAddr 1)], [(0, 1, .int 0), (0, 2, .int 0), (1, 14, .int 12), (1, 14, .int 16)], [], [])
noncomputable def ax_t_215 : List ax_ct := [ax_c_215_0]
noncomputable def ax_w_215 : ax_D := ([(14, 16)], [(17, 22), (175, 175), (177, 178), (219, 220)])
noncomputable def ax_p_215 : ax_po := (some (some ((-4), 149)), [], true, false, [])
noncomputable def ax_s_215 : ax_s9 := (133, ax_sumc ax_sp ax_c_215_0 5, ax_w_215, ax_p_215)
noncomputable def ax_l_215 : ax_Y := [ax_s_63, ax_s_209]
set_option maxRecDepth 1000000 in
theorem ax_k_215_0 : ax_cr9 ax_w_215 ax_l_215 ax_t_215 133 5 40000 ax_p_215 ax_c_215_0 = true := by decide +kernel
theorem ax_y_215 {X : Nat × (Nat → Int32)} : ax_Y1 X ax_sp ax_rf ax_s_215 := ax_meth9 (c := ax_c_215_0) (T := ax_t_215) (ax_Yc ax_y_63 (ax_Yc ax_y_209 ax_Yn)) ⟨ax_k_215_0, trivial⟩ List.mem_cons_self rfl
/-! Model.meet ('meet', 0) -/
noncomputable def ax_c_216_0 : ax_ct := (0, (2, [((-2147483648), 2147483647), ((-2147483648), 2147483647)], [], [], []), [], [some (.ref 244), some (.retAddr 0), some (.retAddr 1)], [(0, 1, .int 0), (0, 2, .int 0)], [], [])
noncomputable def ax_t_216 : List ax_ct := [ax_c_216_0]
noncomputable def ax_w_216 : ax_D := ([(244, 7)], [(249, 254), (278, 278)])
noncomputable def ax_p_216 : ax_po := (some (some ((-4), 149)), [], false, false, [])
noncomputable def ax_s_216 : ax_s9 := (229, ax_sumc ax_sp ax_c_216_0 4, ax_w_216, ax_p_216)
noncomputable def ax_l_216 : ax_Y := [ax_s_211]
set_option maxRecDepth 1000000 in
theorem ax_k_216_0 : ax_cr9 ax_w_216 ax_l_216 ax_t_216 229 4 40000 ax_p_216 ax_c_216_0 = true := by decide +kernel
theorem ax_y_216 {X : Nat × (Nat → Int32)} : ax_Y1 X ax_sp ax_rf ax_s_216 := ax_meth9 (c := ax_c_216_0) (T := ax_t_216) (ax_Yc ax_y_211 ax_Yn) ⟨ax_k_216_0, trivial⟩ List.mem_cons_self rfl
/-! $Barn.choose ((),) -/
noncomputable def ax_c_217_0 : ax_ct := (0, (1, [(0, 520)], [], [], []), [], [some (.ref 221), some (.retAddr 0), none], [(0, 1, .int 0)], [(false, .int 20000), (false, .int 0)], [])
noncomputable def ax_c_217_1 : ax_ct := (7, (2, [(0, 30), (0, 520)], [], [], []), [], [some (.ref 221), some (.retAddr 0), some (.retAddr 1)], [(0, 1, .int 0), (0, 2, .int 0)], [(false, .int 9993), (true, .retAddr 1)], [])
noncomputable def ax_c_217_2 : ax_ct := (111, (2, [((-1), 4), (0, 520)], [], [], []), [], [some (.ref 221), some (.retAddr 0), some (.retAddr 1)], [(0, 1, .int 0), (0, 2, .int 0)], [(false, .int 9889), (false, .retAddr 1)], [])
noncomputable def ax_t_217 : List ax_ct := [ax_c_217_0, ax_c_217_1, ax_c_217_2]
noncomputable def ax_w_217 : ax_D := ([(221, 3)], [(220, 220), (222, 224)])
noncomputable def ax_p_217 : ax_po := (none, [], false, false, [])
noncomputable def ax_s_217 : ax_s9 := (2, ax_sumc ax_sp ax_c_217_0 5, ax_w_217, ax_p_217)
noncomputable def ax_l_217 : ax_Y := [ax_s_209]
set_option maxRecDepth 1000000 in
theorem ax_k_217_0 : ax_cr9 ax_w_217 ax_l_217 ax_t_217 2 5 40000 ax_p_217 ax_c_217_0 = true := by decide +kernel
set_option maxRecDepth 1000000 in
theorem ax_k_217_1 : ax_cr9 ax_w_217 ax_l_217 ax_t_217 2 5 40000 ax_p_217 ax_c_217_1 = true := by decide +kernel
set_option maxRecDepth 1000000 in
theorem ax_k_217_2 : ax_cr9 ax_w_217 ax_l_217 ax_t_217 2 5 40000 ax_p_217 ax_c_217_2 = true := by decide +kernel
theorem ax_y_217 {X : Nat × (Nat → Int32)} : ax_Y1 X ax_sp ax_rf ax_s_217 := ax_meth9 (c := ax_c_217_0) (T := ax_t_217) (ax_Yc ax_y_209 ax_Yn) ⟨ax_k_217_0, ⟨ax_k_217_1, ⟨ax_k_217_2, trivial⟩⟩⟩ List.mem_cons_self rfl
/-! $Barn.plan ((5,),) -/
noncomputable def ax_c_218_0 : ax_ct := (0, (2, [(0, 12), (0, 5)], [], [], []), [(1, .int 4, .retAddr 1)], [some (.ref 221), some (.int 5), some (.retAddr 0), none], [(0, 2, .int 0), (1, 1, .int 4)], [], [])
noncomputable def ax_t_218 : List ax_ct := [ax_c_218_0]
noncomputable def ax_w_218 : ax_D := ([(221, 8)], [(226, 226)])
noncomputable def ax_p_218 : ax_po := (none, [], false, false, [])
noncomputable def ax_s_218 : ax_s9 := (3, ax_sumc ax_sp ax_c_218_0 1, ax_w_218, ax_p_218)
noncomputable def ax_l_218 : ax_Y := []
set_option maxRecDepth 1000000 in
theorem ax_k_218_0 : ax_cr9 ax_w_218 ax_l_218 ax_t_218 3 1 40000 ax_p_218 ax_c_218_0 = true := by decide +kernel
theorem ax_y_218 {X : Nat × (Nat → Int32)} : ax_Y1 X ax_sp ax_rf ax_s_218 := ax_meth9 (c := ax_c_218_0) (T := ax_t_218) ax_Yn ⟨ax_k_218_0, trivial⟩ List.mem_cons_self rfl
/-! $Barn.plan ((4,),) -/
noncomputable def ax_c_219_0 : ax_ct := (0, (2, [(0, 12), (0, 4)], [], [], []), [(1, .int 4, .retAddr 1)], [some (.ref 221), some (.int 4), some (.retAddr 0), none], [(0, 2, .int 0), (1, 1, .int 4)], [(false, .int 20000), (false, .int 0)], [])
noncomputable def ax_c_219_1 : ax_ct := (57, (3, [(0, 12), (0, 12), (0, 4)], [], [], [(1, 2, 0)]), [(1, .int 4, .retAddr 2)], [some (.ref 221), some (.int 4), some (.retAddr 0), some (.retAddr 1)], [(0, 2, .int 0), (0, 3, .int 0), (1, 1, .int 4)], [(false, .int 9943), (true, .retAddr 1)], [])
noncomputable def ax_t_219 : List ax_ct := [ax_c_219_0, ax_c_219_1]
noncomputable def ax_w_219 : ax_D := ([(221, 8)], [(225, 228)])
noncomputable def ax_p_219 : ax_po := (none, [], false, false, [])
noncomputable def ax_s_219 : ax_s9 := (3, ax_sumc ax_sp ax_c_219_0 3, ax_w_219, ax_p_219)
noncomputable def ax_l_219 : ax_Y := [ax_s_218]
set_option maxRecDepth 1000000 in
theorem ax_k_219_0 : ax_cr9 ax_w_219 ax_l_219 ax_t_219 3 3 40000 ax_p_219 ax_c_219_0 = true := by decide +kernel
set_option maxRecDepth 1000000 in
theorem ax_k_219_1 : ax_cr9 ax_w_219 ax_l_219 ax_t_219 3 3 40000 ax_p_219 ax_c_219_1 = true := by decide +kernel
theorem ax_y_219 {X : Nat × (Nat → Int32)} : ax_Y1 X ax_sp ax_rf ax_s_219 := ax_meth9 (c := ax_c_219_0) (T := ax_t_219) (ax_Yc ax_y_218 ax_Yn) ⟨ax_k_219_0, ⟨ax_k_219_1, trivial⟩⟩ List.mem_cons_self rfl
/-! $Barn.plan ((3,),) -/
noncomputable def ax_c_220_0 : ax_ct := (0, (2, [(0, 12), (0, 3)], [], [], []), [(1, .int 4, .retAddr 1)], [some (.ref 221), some (.int 3), some (.retAddr 0), none], [(0, 2, .int 0), (1, 1, .int 4)], [(false, .int 20000), (false, .int 0)], [])
noncomputable def ax_c_220_1 : ax_ct := (57, (3, [(0, 12), (0, 12), (0, 3)], [], [], [(1, 2, 0)]), [(1, .int 4, .retAddr 2)], [some (.ref 221), some (.int 3), some (.retAddr 0), some (.retAddr 1)], [(0, 2, .int 0), (0, 3, .int 0), (1, 1, .int 4)], [(false, .int 9943), (true, .retAddr 1)], [])
noncomputable def ax_t_220 : List ax_ct := [ax_c_220_0, ax_c_220_1]
noncomputable def ax_w_220 : ax_D := ([(221, 8)], [(225, 228)])
noncomputable def ax_p_220 : ax_po := (none, [], false, false, [])
noncomputable def ax_s_220 : ax_s9 := (3, ax_sumc ax_sp ax_c_220_0 5, ax_w_220, ax_p_220)
noncomputable def ax_l_220 : ax_Y := [ax_s_219]
set_option maxRecDepth 1000000 in
theorem ax_k_220_0 : ax_cr9 ax_w_220 ax_l_220 ax_t_220 3 5 40000 ax_p_220 ax_c_220_0 = true := by decide +kernel
set_option maxRecDepth 1000000 in
theorem ax_k_220_1 : ax_cr9 ax_w_220 ax_l_220 ax_t_220 3 5 40000 ax_p_220 ax_c_220_1 = true := by decide +kernel
theorem ax_y_220 {X : Nat × (Nat → Int32)} : ax_Y1 X ax_sp ax_rf ax_s_220 := ax_meth9 (c := ax_c_220_0) (T := ax_t_220) (ax_Yc ax_y_219 ax_Yn) ⟨ax_k_220_0, ⟨ax_k_220_1, trivial⟩⟩ List.mem_cons_self rfl
/-! $Barn.plan ((2,),) -/
noncomputable def ax_c_221_0 : ax_ct := (0, (2, [(0, 12), (0, 2)], [], [], []), [(1, .int 4, .retAddr 1)], [some (.ref 221), some (.int 2), some (.retAddr 0), none], [(0, 2, .int 0), (1, 1, .int 4)], [(false, .int 20000), (false, .int 0)], [])
noncomputable def ax_c_221_1 : ax_ct := (57, (3, [(0, 12), (0, 12), (0, 2)], [], [], [(1, 2, 0)]), [(1, .int 4, .retAddr 2)], [some (.ref 221), some (.int 2), some (.retAddr 0), some (.retAddr 1)], [(0, 2, .int 0), (0, 3, .int 0), (1, 1, .int 4)], [(false, .int 9943), (true, .retAddr 1)], [])
noncomputable def ax_t_221 : List ax_ct := [ax_c_221_0, ax_c_221_1]
noncomputable def ax_w_221 : ax_D := ([(221, 8)], [(225, 228)])
noncomputable def ax_p_221 : ax_po := (none, [], false, false, [])
noncomputable def ax_s_221 : ax_s9 := (3, ax_sumc ax_sp ax_c_221_0 7, ax_w_221, ax_p_221)
noncomputable def ax_l_221 : ax_Y := [ax_s_220]
set_option maxRecDepth 1000000 in
theorem ax_k_221_0 : ax_cr9 ax_w_221 ax_l_221 ax_t_221 3 7 40000 ax_p_221 ax_c_221_0 = true := by decide +kernel
set_option maxRecDepth 1000000 in
theorem ax_k_221_1 : ax_cr9 ax_w_221 ax_l_221 ax_t_221 3 7 40000 ax_p_221 ax_c_221_1 = true := by decide +kernel
theorem ax_y_221 {X : Nat × (Nat → Int32)} : ax_Y1 X ax_sp ax_rf ax_s_221 := ax_meth9 (c := ax_c_221_0) (T := ax_t_221) (ax_Yc ax_y_220 ax_Yn) ⟨ax_k_221_0, ⟨ax_k_221_1, trivial⟩⟩ List.mem_cons_self rfl
/-! $Barn.plan ((1,),) -/
noncomputable def ax_c_222_0 : ax_ct := (0, (2, [(0, 12), (0, 1)], [], [], [(0, 1, 0)]), [(1, .int 4, .retAddr 1)], [some (.ref 221), some (.int 1), some (.retAddr 0), none], [(0, 2, .int 0), (1, 1, .int 4)], [(false, .int 20000), (false, .int 0)], [])
noncomputable def ax_c_222_1 : ax_ct := (57, (3, [(0, 12), (0, 12), (0, 1)], [], [], [(1, 2, 0), (0, 2, 0)]), [(1, .int 4, .retAddr 2)], [some (.ref 221), some (.int 1), some (.retAddr 0), some (.retAddr 1)], [(0, 2, .int 0), (0, 3, .int 0), (1, 1, .int 4)], [(false, .int 9943), (true, .retAddr 1)], [])
noncomputable def ax_t_222 : List ax_ct := [ax_c_222_0, ax_c_222_1]
noncomputable def ax_w_222 : ax_D := ([(221, 8)], [(225, 228)])
noncomputable def ax_p_222 : ax_po := (none, [], false, false, [])
noncomputable def ax_s_222 : ax_s9 := (3, ax_sumc ax_sp ax_c_222_0 9, ax_w_222, ax_p_222)
noncomputable def ax_l_222 : ax_Y := [ax_s_221]
set_option maxRecDepth 1000000 in
theorem ax_k_222_0 : ax_cr9 ax_w_222 ax_l_222 ax_t_222 3 9 40000 ax_p_222 ax_c_222_0 = true := by decide +kernel
set_option maxRecDepth 1000000 in
theorem ax_k_222_1 : ax_cr9 ax_w_222 ax_l_222 ax_t_222 3 9 40000 ax_p_222 ax_c_222_1 = true := by decide +kernel
theorem ax_y_222 {X : Nat × (Nat → Int32)} : ax_Y1 X ax_sp ax_rf ax_s_222 := ax_meth9 (c := ax_c_222_0) (T := ax_t_222) (ax_Yc ax_y_221 ax_Yn) ⟨ax_k_222_0, ⟨ax_k_222_1, trivial⟩⟩ List.mem_cons_self rfl
/-! $Barn.plan ((0,),) -/
noncomputable def ax_c_223_0 : ax_ct := (0, (2, [(0, 12), (0, 0)], [], [], []), [(1, .int 4, .retAddr 1)], [some (.ref 221), some (.int 0), some (.retAddr 0), none], [(0, 2, .int 0), (1, 1, .int 4)], [(false, .int 20000), (false, .int 0)], [])
noncomputable def ax_c_223_1 : ax_ct := (57, (3, [(0, 12), (0, 12), (0, 0)], [], [], [(1, 2, 0)]), [(1, .int 4, .retAddr 2)], [some (.ref 221), some (.int 0), some (.retAddr 0), some (.retAddr 1)], [(0, 2, .int 0), (0, 3, .int 0), (1, 1, .int 4)], [(false, .int 9943), (true, .retAddr 1)], [])
noncomputable def ax_t_223 : List ax_ct := [ax_c_223_0, ax_c_223_1]
noncomputable def ax_w_223 : ax_D := ([(221, 8)], [(225, 228)])
noncomputable def ax_p_223 : ax_po := (none, [], false, false, [])
noncomputable def ax_s_223 : ax_s9 := (3, ax_sumc ax_sp ax_c_223_0 11, ax_w_223, ax_p_223)
noncomputable def ax_l_223 : ax_Y := [ax_s_222]
set_option maxRecDepth 1000000 in
theorem ax_k_223_0 : ax_cr9 ax_w_223 ax_l_223 ax_t_223 3 11 40000 ax_p_223 ax_c_223_0 = true := by decide +kernel
set_option maxRecDepth 1000000 in
theorem ax_k_223_1 : ax_cr9 ax_w_223 ax_l_223 ax_t_223 3 11 40000 ax_p_223 ax_c_223_1 = true := by decide +kernel
theorem ax_y_223 {X : Nat × (Nat → Int32)} : ax_Y1 X ax_sp ax_rf ax_s_223 := ax_meth9 (c := ax_c_223_0) (T := ax_t_223) (ax_Yc ax_y_222 ax_Yn) ⟨ax_k_223_0, ⟨ax_k_223_1, trivial⟩⟩ List.mem_cons_self rfl
/-! $Barn.planFor ((),) -/
noncomputable def ax_c_224_0 : ax_ct := (0, (1, [(0, 520)], [], [], []), [], [some (.ref 221), some (.retAddr 0), none], [(0, 1, .int 0)], [(false, .int 20000), (false, .int 0)], [])
noncomputable def ax_c_224_1 : ax_ct := (15, (2, [(0, 12), (0, 520)], [], [], []), [], [some (.ref 221), some (.retAddr 0), some (.retAddr 1)], [(0, 1, .int 0), (0, 2, .int 0)], [(false, .int 9985), (true, .retAddr 1)], [])
noncomputable def ax_t_224 : List ax_ct := [ax_c_224_0, ax_c_224_1]
noncomputable def ax_w_224 : ax_D := ([(221, 3), (221, 8)], [(220, 220), (222, 228)])
noncomputable def ax_p_224 : ax_po := (some (some ((-1), 5)), [], false, false, [])
noncomputable def ax_s_224 : ax_s9 := (1, ax_sumc ax_sp ax_c_224_0 12, ax_w_224, ax_p_224)
noncomputable def ax_l_224 : ax_Y := [ax_s_217, ax_s_205, ax_s_223, ax_s_2]
set_option maxRecDepth 1000000 in
theorem ax_k_224_0 : ax_cr9 ax_w_224 ax_l_224 ax_t_224 1 12 40000 ax_p_224 ax_c_224_0 = true := by decide +kernel
set_option maxRecDepth 1000000 in
theorem ax_k_224_1 : ax_cr9 ax_w_224 ax_l_224 ax_t_224 1 12 40000 ax_p_224 ax_c_224_1 = true := by decide +kernel
theorem ax_y_224 {X : Nat × (Nat → Int32)} : ax_Y1 X ax_sp ax_rf ax_s_224 := ax_meth9 (c := ax_c_224_0) (T := ax_t_224) (ax_Yc ax_y_217 (ax_Yc ax_y_205 (ax_Yc ax_y_223 (ax_Yc ax_y_2 ax_Yn)))) ⟨ax_k_224_0, ⟨ax_k_224_1, trivial⟩⟩ List.mem_cons_self rfl
/-! .barn ('barn', 0) -/
noncomputable def ax_c_225_0 : ax_ct := (0, (1, [((-2147483648), 2147483647)], [], [], []), [], [some (.ref 0), some (.retAddr 0)], [(0, 1, .int 0)], [], [])
noncomputable def ax_t_225 : List ax_ct := [ax_c_225_0]
noncomputable def ax_w_225 : ax_D := ([(221, 3), (221, 8)], [(220, 220), (222, 228)])
noncomputable def ax_p_225 : ax_po := (some (some ((-1), 5)), [], false, false, [])
noncomputable def ax_s_225 : ax_s9 := (134, ax_sumc ax_sp ax_c_225_0 13, ax_w_225, ax_p_225)
noncomputable def ax_l_225 : ax_Y := [ax_s_224]
set_option maxRecDepth 1000000 in
theorem ax_k_225_0 : ax_cr9 ax_w_225 ax_l_225 ax_t_225 134 13 40000 ax_p_225 ax_c_225_0 = true := by decide +kernel
theorem ax_y_225 {X : Nat × (Nat → Int32)} : ax_Y1 X ax_sp ax_rf ax_s_225 := ax_meth9 (c := ax_c_225_0) (T := ax_t_225) (ax_Yc ax_y_224 ax_Yn) ⟨ax_k_225_0, trivial⟩ List.mem_cons_self rfl
/-! Model.canHelp ((0,),) -/
noncomputable def ax_c_226_0 : ax_ct := (0, (2, [(0, 12), (0, 12)], [], [], [(1, 0, 0)]), [(280, .int 0, .retAddr 1), (244, .int 1, .retAddr 0)], [some (.ref 244), some (.int 0), none, none, none], [(1, 244, .int 1), (1, 280, .int 0)], [], [])
noncomputable def ax_t_226 : List ax_ct := [ax_c_226_0]
noncomputable def ax_w_226 : ax_D := ([], [])
noncomputable def ax_p_226 : ax_po := (some (some (0, 1)), [], false, false, [])
noncomputable def ax_s_226 : ax_s9 := (230, ax_sumc ax_sp ax_c_226_0 3, ax_w_226, ax_p_226)
noncomputable def ax_l_226 : ax_Y := [ax_s_207]
set_option maxRecDepth 1000000 in
theorem ax_k_226_0 : ax_cr9 ax_w_226 ax_l_226 ax_t_226 230 3 40000 ax_p_226 ax_c_226_0 = true := by decide +kernel
theorem ax_y_226 {X : Nat × (Nat → Int32)} : ax_Y1 X ax_sp ax_rf ax_s_226 := ax_meth9 (c := ax_c_226_0) (T := ax_t_226) (ax_Yc ax_y_207 ax_Yn) ⟨ax_k_226_0, trivial⟩ List.mem_cons_self rfl
/-! Model.canHelp ((1,),) -/
noncomputable def ax_c_227_0 : ax_ct := (0, (2, [(0, 12), (0, 12)], [], [], [(1, 0, 0)]), [(280, .int 1, .retAddr 1), (244, .int 1, .retAddr 0)], [some (.ref 244), some (.int 1), none, none, none], [(1, 244, .int 1), (1, 280, .int 1)], [], [])
noncomputable def ax_t_227 : List ax_ct := [ax_c_227_0]
noncomputable def ax_w_227 : ax_D := ([], [])
noncomputable def ax_p_227 : ax_po := (some (some (0, 1)), [], false, false, [])
noncomputable def ax_s_227 : ax_s9 := (230, ax_sumc ax_sp ax_c_227_0 3, ax_w_227, ax_p_227)
noncomputable def ax_l_227 : ax_Y := [ax_s_207]
set_option maxRecDepth 1000000 in
theorem ax_k_227_0 : ax_cr9 ax_w_227 ax_l_227 ax_t_227 230 3 40000 ax_p_227 ax_c_227_0 = true := by decide +kernel
theorem ax_y_227 {X : Nat × (Nat → Int32)} : ax_Y1 X ax_sp ax_rf ax_s_227 := ax_meth9 (c := ax_c_227_0) (T := ax_t_227) (ax_Yc ax_y_207 ax_Yn) ⟨ax_k_227_0, trivial⟩ List.mem_cons_self rfl
/-! Model.canHelp ((2,),) -/
noncomputable def ax_c_228_0 : ax_ct := (0, (2, [(0, 12), (0, 12)], [], [], [(1, 0, 0)]), [(280, .int 2, .retAddr 1), (244, .int 1, .retAddr 0)], [some (.ref 244), some (.int 2), none, none, none], [(1, 244, .int 1), (1, 280, .int 2)], [], [])
noncomputable def ax_t_228 : List ax_ct := [ax_c_228_0]
noncomputable def ax_w_228 : ax_D := ([], [])
noncomputable def ax_p_228 : ax_po := (some (some (0, 1)), [], false, false, [])
noncomputable def ax_s_228 : ax_s9 := (230, ax_sumc ax_sp ax_c_228_0 3, ax_w_228, ax_p_228)
noncomputable def ax_l_228 : ax_Y := [ax_s_207]
set_option maxRecDepth 1000000 in
theorem ax_k_228_0 : ax_cr9 ax_w_228 ax_l_228 ax_t_228 230 3 40000 ax_p_228 ax_c_228_0 = true := by decide +kernel
theorem ax_y_228 {X : Nat × (Nat → Int32)} : ax_Y1 X ax_sp ax_rf ax_s_228 := ax_meth9 (c := ax_c_228_0) (T := ax_t_228) (ax_Yc ax_y_207 ax_Yn) ⟨ax_k_228_0, trivial⟩ List.mem_cons_self rfl
/-! Model.canHelp ((3,),) -/
noncomputable def ax_c_229_0 : ax_ct := (0, (2, [(0, 12), (0, 12)], [], [], [(1, 0, 0)]), [(280, .int 3, .retAddr 1), (244, .int 1, .retAddr 0)], [some (.ref 244), some (.int 3), none, none, none], [(1, 244, .int 1), (1, 280, .int 3)], [], [])
noncomputable def ax_t_229 : List ax_ct := [ax_c_229_0]
noncomputable def ax_w_229 : ax_D := ([], [])
noncomputable def ax_p_229 : ax_po := (some (some (0, 1)), [], false, false, [])
noncomputable def ax_s_229 : ax_s9 := (230, ax_sumc ax_sp ax_c_229_0 3, ax_w_229, ax_p_229)
noncomputable def ax_l_229 : ax_Y := [ax_s_207]
set_option maxRecDepth 1000000 in
theorem ax_k_229_0 : ax_cr9 ax_w_229 ax_l_229 ax_t_229 230 3 40000 ax_p_229 ax_c_229_0 = true := by decide +kernel
theorem ax_y_229 {X : Nat × (Nat → Int32)} : ax_Y1 X ax_sp ax_rf ax_s_229 := ax_meth9 (c := ax_c_229_0) (T := ax_t_229) (ax_Yc ax_y_207 ax_Yn) ⟨ax_k_229_0, trivial⟩ List.mem_cons_self rfl
/-! Model.canHelp ((4,),) -/
noncomputable def ax_c_230_0 : ax_ct := (0, (2, [(0, 12), (0, 12)], [], [], [(1, 0, 0)]), [(280, .int 4, .retAddr 1), (244, .int 1, .retAddr 0)], [some (.ref 244), some (.int 4), none, none, none], [(1, 244, .int 1), (1, 280, .int 4)], [], [])
noncomputable def ax_t_230 : List ax_ct := [ax_c_230_0]
noncomputable def ax_w_230 : ax_D := ([], [])
noncomputable def ax_p_230 : ax_po := (some (some (0, 1)), [], false, false, [])
noncomputable def ax_s_230 : ax_s9 := (230, ax_sumc ax_sp ax_c_230_0 3, ax_w_230, ax_p_230)
noncomputable def ax_l_230 : ax_Y := [ax_s_207]
set_option maxRecDepth 1000000 in
theorem ax_k_230_0 : ax_cr9 ax_w_230 ax_l_230 ax_t_230 230 3 40000 ax_p_230 ax_c_230_0 = true := by decide +kernel
theorem ax_y_230 {X : Nat × (Nat → Int32)} : ax_Y1 X ax_sp ax_rf ax_s_230 := ax_meth9 (c := ax_c_230_0) (T := ax_t_230) (ax_Yc ax_y_207 ax_Yn) ⟨ax_k_230_0, trivial⟩ List.mem_cons_self rfl
/-! Model.findBarn ((),) -/
noncomputable def ax_c_231_0 : ax_ct := (0, (1, [(0, 520)], [], [], []), [], [some (.ref 244), some (.retAddr 0), none, none, none], [(0, 1, .int 0)], [(false, .int 20000), (false, .int 0), (false, .int 0), (false, .int 0), (false, .int 0), (false, .int 0), (false, .int 20000), (false, .int 0)], [])
noncomputable def ax_c_231_1 : ax_ct := (7, (2, [(0, 30), (0, 520)], [], [], []), [], [some (.ref 244), some (.retAddr 0), some (.retAddr 1), none, none], [(0, 1, .int 0), (0, 2, .int 0)], [(false, .int 9993), (true, .retAddr 1), (false, .int 0), (false, .int 0), (false, .int 0), (false, .int 0), (false, .int 20000), (false, .int 0)], [])
noncomputable def ax_c_231_2 : ax_ct := (112, (8, [((-1), 15), ((-1), 15), ((-1), 15), ((-1), 15), (1, 13), (1, 5), (0, 12), (0, 520)], [], [], [(1, 3, 1)]), [(280, .int 4, .retAddr 7), (280, .int 3, .retAddr 6), (280, .int 2, .retAddr 5), (280, .int 1, .retAddr 4), (280, .int 0, .retAddr 3), (244, .int 48, .retAddr 2), (244, .int 1, .retAddr 1)], [some (.ref 244), some (.retAddr 0), some (.int (-1)), none, none], [(0, 1, .int 0), (1, 244, .int 1), (1, 244, .int 48), (1, 280, .int 0), (1, 280, .int 1), (1, 280, .int 2), (1, 280, .int 3), (1, 280, .int 4)], [(false, .int 9888), (true, .int 100), (true, .int 100), (true, .int 100), (true, .int 100), (true, .int 100), (false, .int (-1)), (false, .int 0)], [])
noncomputable def ax_c_231_3 : ax_ct := (112, (8, [((-1), 15), ((-1), 15), ((-1), 15), ((-1), 15), ((-1), 12), (1, 5), (0, 12), (0, 520)], [], [], [(3, 1, 0)]), [(280, .int 4, .retAddr 7), (280, .int 3, .retAddr 6), (280, .int 2, .retAddr 5), (280, .int 1, .retAddr 4), (280, .int 0, .retAddr 3), (244, .int 48, .retAddr 2), (244, .int 1, .retAddr 1)], [some (.ref 244), some (.retAddr 0), some (.int 0), none, none], [(0, 1, .int 0), (1, 244, .int 1), (1, 244, .int 48), (1, 280, .int 0), (1, 280, .int 1), (1, 280, .int 2), (1, 280, .int 3), (1, 280, .int 4)], [(false, .int 9888), (true, .retAddr 3), (true, .int 100), (true, .int 100), (true, .int 100), (true, .int 100), (false, .int (-1)), (false, .int 0)], [])
noncomputable def ax_c_231_4 : ax_ct := (112, (8, [((-1), 15), ((-1), 15), ((-1), 15), ((-1), 12), (0, 12), (1, 5), (0, 12), (0, 520)], [], [], [(4, 1, 0), (3, 1, 0)]), [(280, .int 4, .retAddr 7), (280, .int 3, .retAddr 6), (280, .int 2, .retAddr 5), (280, .int 1, .retAddr 4), (280, .int 0, .retAddr 3), (244, .int 48, .retAddr 2), (244, .int 1, .retAddr 1)], [some (.ref 244), some (.retAddr 0), some (.int 1), none, none], [(0, 1, .int 0), (1, 244, .int 1), (1, 244, .int 48), (1, 280, .int 0), (1, 280, .int 1), (1, 280, .int 2), (1, 280, .int 3), (1, 280, .int 4)], [(false, .int 9888), (true, .retAddr 3), (true, .retAddr 4), (true, .int 100), (true, .int 100), (true, .int 100), (false, .int (-1)), (false, .int 0)], [])
noncomputable def ax_c_231_5 : ax_ct := (112, (8, [((-1), 15), ((-1), 15), ((-1), 12), (0, 12), (0, 12), (1, 5), (0, 12), (0, 520)], [], [], [(5, 1, 0), (4, 1, 0), (3, 1, 0)]), [(280, .int 4, .retAddr 7), (280, .int 3, .retAddr 6), (280, .int 2, .retAddr 5), (280, .int 1, .retAddr 4), (280, .int 0, .retAddr 3), (244, .int 48, .retAddr 2), (244, .int 1, .retAddr 1)], [some (.ref 244), some (.retAddr 0), some (.int 2), none, none], [(0, 1, .int 0), (1, 244, .int 1), (1, 244, .int 48), (1, 280, .int 0), (1, 280, .int 1), (1, 280, .int 2), (1, 280, .int 3), (1, 280, .int 4)], [(false, .int 9888), (true, .retAddr 3), (true, .retAddr 4), (true, .retAddr 5), (true, .int 100), (true, .int 100), (false, .int (-1)), (false, .int 0)], [])
noncomputable def ax_c_231_6 : ax_ct := (112, (8, [((-1), 15), ((-1), 12), (0, 12), (0, 12), (0, 12), (1, 5), (0, 12), (0, 520)], [], [], [(6, 1, 0), (5, 1, 0), (4, 1, 0), (3, 1, 0)]), [(280, .int 4, .retAddr 7), (280, .int 3, .retAddr 6), (280, .int 2, .retAddr 5), (280, .int 1, .retAddr 4), (280, .int 0, .retAddr 3), (244, .int 48, .retAddr 2), (244, .int 1, .retAddr 1)], [some (.ref 244), some (.retAddr 0), some (.int 3), none, none], [(0, 1, .int 0), (1, 244, .int 1), (1, 244, .int 48), (1, 280, .int 0), (1, 280, .int 1), (1, 280, .int 2), (1, 280, .int 3), (1, 280, .int 4)], [(false, .int 9888), (true, .retAddr 3), (true, .retAddr 4), (true, .retAddr 5), (true, .retAddr 6), (true, .int 100), (false, .int (-1)), (false, .int 0)], [])
noncomputable def ax_c_231_7 : ax_ct := (112, (8, [((-1), 12), (0, 12), (0, 12), (0, 12), (0, 12), (1, 5), (0, 12), (0, 520)], [], [], [(7, 1, 0), (6, 1, 0), (5, 1, 0), (4, 1, 0), (3, 1, 0)]), [(280, .int 4, .retAddr 7), (280, .int 3, .retAddr 6), (280, .int 2, .retAddr 5), (280, .int 1, .retAddr 4), (280, .int 0, .retAddr 3), (244, .int 48, .retAddr 2), (244, .int 1, .retAddr 1)], [some (.ref 244), some (.retAddr 0), some (.int 4), none, none], [(0, 1, .int 0), (1, 244, .int 1), (1, 244, .int 48), (1, 280, .int 0), (1, 280, .int 1), (1, 280, .int 2), (1, 280, .int 3), (1, 280, .int 4)], [(false, .int 9888), (true, .retAddr 3), (true, .retAddr 4), (true, .retAddr 5), (true, .retAddr 6), (true, .retAddr 7), (false, .int (-1)), (false, .int 0)], [])
noncomputable def ax_c_231_8 : ax_ct := (184, (10, [((-1), 15), ((-1), 15), ((-1), 15), ((-1), 15), (0, 12), (1, 5), (0, 12), (0, 5), (0, 5), (0, 520)], [], [], [(5, 3, 0), (2, 4, 0), (1, 4, 0), (1, 2, 0)]), [(280, .int 4, .retAddr 9), (280, .int 3, .retAddr 8), (280, .int 2, .retAddr 7), (280, .int 1, .retAddr 6), (280, .int 0, .retAddr 5), (244, .int 48, .retAddr 4), (244, .int 1, .retAddr 3)], [some (.ref 244), some (.retAddr 0), some (.int 0), some (.retAddr 1), some (.retAddr 2)], [(0, 1, .int 0), (0, 3, .int 0), (0, 4, .int 0), (1, 244, .int 1), (1, 244, .int 48), (1, 280, .int 0), (1, 280, .int 1), (1, 280, .int 2), (1, 280, .int 3), (1, 280, .int 4)], [(false, .int 9888), (true, .retAddr 5), (true, .int 100), (true, .int 100), (true, .int 100), (true, .int 100), (false, .int 9816), (true, .retAddr 2)], [])
noncomputable def ax_c_231_9 : ax_ct := (184, (10, [((-1), 15), ((-1), 15), ((-1), 15), (0, 12), (0, 12), (1, 5), (0, 12), (0, 5), (0, 5), (0, 520)], [], [], [(6, 3, 0), (5, 3, 0), (2, 4, 0), (1, 4, 0), (1, 2, 0)]), [(280, .int 4, .retAddr 9), (280, .int 3, .retAddr 8), (280, .int 2, .retAddr 7), (280, .int 1, .retAddr 6), (280, .int 0, .retAddr 5), (244, .int 48, .retAddr 4), (244, .int 1, .retAddr 3)], [some (.ref 244), some (.retAddr 0), some (.int 1), some (.retAddr 1), some (.retAddr 2)], [(0, 1, .int 0), (0, 3, .int 0), (0, 4, .int 0), (1, 244, .int 1), (1, 244, .int 48), (1, 280, .int 0), (1, 280, .int 1), (1, 280, .int 2), (1, 280, .int 3), (1, 280, .int 4)], [(false, .int 9888), (true, .retAddr 5), (true, .retAddr 6), (true, .int 100), (true, .int 100), (true, .int 100), (false, .int 9816), (true, .retAddr 2)], [])
noncomputable def ax_c_231_10 : ax_ct := (184, (10, [((-1), 15), ((-1), 15), (0, 12), (0, 12), (0, 12), (1, 5), (0, 12), (0, 5), (0, 5), (0, 520)], [], [], [(7, 3, 0), (6, 3, 0), (5, 3, 0), (2, 4, 0), (1, 4, 0), (1, 2, 0)]), [(280, .int 4, .retAddr 9), (280, .int 3, .retAddr 8), (280, .int 2, .retAddr 7), (280, .int 1, .retAddr 6), (280, .int 0, .retAddr 5), (244, .int 48, .retAddr 4), (244, .int 1, .retAddr 3)], [some (.ref 244), some (.retAddr 0), some (.int 2), some (.retAddr 1), some (.retAddr 2)], [(0, 1, .int 0), (0, 3, .int 0), (0, 4, .int 0), (1, 244, .int 1), (1, 244, .int 48), (1, 280, .int 0), (1, 280, .int 1), (1, 280, .int 2), (1, 280, .int 3), (1, 280, .int 4)], [(false, .int 9888), (true, .retAddr 5), (true, .retAddr 6), (true, .retAddr 7), (true, .int 100), (true, .int 100), (false, .int 9816), (true, .retAddr 2)], [])
noncomputable def ax_c_231_11 : ax_ct := (184, (10, [((-1), 15), (0, 12), (0, 12), (0, 12), (0, 12), (1, 5), (0, 12), (0, 5), (0, 5), (0, 520)], [], [], [(8, 3, 0), (7, 3, 0), (6, 3, 0), (5, 3, 0), (2, 4, 0), (1, 4, 0), (1, 2, 0)]), [(280, .int 4, .retAddr 9), (280, .int 3, .retAddr 8), (280, .int 2, .retAddr 7), (280, .int 1, .retAddr 6), (280, .int 0, .retAddr 5), (244, .int 48, .retAddr 4), (244, .int 1, .retAddr 3)], [some (.ref 244), some (.retAddr 0), some (.int 3), some (.retAddr 1), some (.retAddr 2)], [(0, 1, .int 0), (0, 3, .int 0), (0, 4, .int 0), (1, 244, .int 1), (1, 244, .int 48), (1, 280, .int 0), (1, 280, .int 1), (1, 280, .int 2), (1, 280, .int 3), (1, 280, .int 4)], [(false, .int 9888), (true, .retAddr 5), (true, .retAddr 6), (true, .retAddr 7), (true, .retAddr 8), (true, .int 100), (false, .int 9816), (true, .retAddr 2)], [])
noncomputable def ax_c_231_12 : ax_ct := (184, (10, [(0, 12), (0, 12), (0, 12), (0, 12), (0, 12), (1, 5), (0, 12), (0, 5), (0, 5), (0, 520)], [], [], [(9, 3, 0), (8, 3, 0), (7, 3, 0), (6, 3, 0), (5, 3, 0), (2, 4, 0), (1, 4, 0), (1, 2, 0)]), [(280, .int 4, .retAddr 9), (280, .int 3, .retAddr 8), (280, .int 2, .retAddr 7), (280, .int 1, .retAddr 6), (280, .int 0, .retAddr 5), (244, .int 48, .retAddr 4), (244, .int 1, .retAddr 3)], [some (.ref 244), some (.retAddr 0), some (.int 4), some (.retAddr 1), some (.retAddr 2)], [(0, 1, .int 0), (0, 3, .int 0), (0, 4, .int 0), (1, 244, .int 1), (1, 244, .int 48), (1, 280, .int 0), (1, 280, .int 1), (1, 280, .int 2), (1, 280, .int 3), (1, 280, .int 4)], [(false, .int 9888), (true, .retAddr 5), (true, .retAddr 6), (true, .retAddr 7), (true, .retAddr 8), (true, .retAddr 9), (false, .int 9816), (true, .retAddr 2)], [])
noncomputable def ax_c_231_13 : ax_ct := (240, (10, [((-1), 15), ((-1), 15), ((-1), 15), ((-1), 15), (0, 12), (1, 5), (0, 12), (0, 5), (0, 5), (0, 520)], [], [], [(5, 3, 0), (2, 4, 0), (1, 4, 0)]), [(280, .int 4, .retAddr 9), (280, .int 3, .retAddr 8), (280, .int 2, .retAddr 7), (280, .int 1, .retAddr 6), (280, .int 0, .retAddr 5), (244, .int 48, .retAddr 4), (244, .int 1, .retAddr 3)], [some (.ref 244), some (.retAddr 0), some (.int 0), some (.retAddr 1), some (.retAddr 2)], [(0, 1, .int 0), (0, 3, .int 0), (0, 4, .int 0), (1, 244, .int 1), (1, 244, .int 48), (1, 280, .int 0), (1, 280, .int 1), (1, 280, .int 2), (1, 280, .int 3), (1, 280, .int 4)], [(false, .int 9888), (true, .retAddr 5), (true, .int 100), (true, .int 100), (true, .int 100), (true, .int 100), (false, .int 9760), (true, .retAddr 2)], [])
noncomputable def ax_c_231_14 : ax_ct := (240, (10, [((-1), 15), ((-1), 15), ((-1), 15), (0, 12), (0, 12), (1, 5), (0, 12), (0, 5), (0, 5), (0, 520)], [], [], [(6, 3, 0), (5, 3, 0), (2, 4, 0), (1, 4, 0)]), [(280, .int 4, .retAddr 9), (280, .int 3, .retAddr 8), (280, .int 2, .retAddr 7), (280, .int 1, .retAddr 6), (280, .int 0, .retAddr 5), (244, .int 48, .retAddr 4), (244, .int 1, .retAddr 3)], [some (.ref 244), some (.retAddr 0), some (.int 1), some (.retAddr 1), some (.retAddr 2)], [(0, 1, .int 0), (0, 3, .int 0), (0, 4, .int 0), (1, 244, .int 1), (1, 244, .int 48), (1, 280, .int 0), (1, 280, .int 1), (1, 280, .int 2), (1, 280, .int 3), (1, 280, .int 4)], [(false, .int 9888), (true, .retAddr 5), (true, .retAddr 6), (true, .int 100), (true, .int 100), (true, .int 100), (false, .int 9760), (true, .retAddr 2)], [])
noncomputable def ax_c_231_15 : ax_ct := (240, (10, [((-1), 15), ((-1), 15), (0, 12), (0, 12), (0, 12), (1, 5), (0, 12), (0, 5), (0, 5), (0, 520)], [], [], [(7, 3, 0), (6, 3, 0), (5, 3, 0), (2, 4, 0), (1, 4, 0)]), [(280, .int 4, .retAddr 9), (280, .int 3, .retAddr 8), (280, .int 2, .retAddr 7), (280, .int 1, .retAddr 6), (280, .int 0, .retAddr 5), (244, .int 48, .retAddr 4), (244, .int 1, .retAddr 3)], [some (.ref 244), some (.retAddr 0), some (.int 2), some (.retAddr 1), some (.retAddr 2)], [(0, 1, .int 0), (0, 3, .int 0), (0, 4, .int 0), (1, 244, .int 1), (1, 244, .int 48), (1, 280, .int 0), (1, 280, .int 1), (1, 280, .int 2), (1, 280, .int 3), (1, 280, .int 4)], [(false, .int 9888), (true, .retAddr 5), (true, .retAddr 6), (true, .retAddr 7), (true, .int 100), (true, .int 100), (false, .int 9760), (true, .retAddr 2)], [])
noncomputable def ax_c_231_16 : ax_ct := (240, (10, [((-1), 15), (0, 12), (0, 12), (0, 12), (0, 12), (1, 5), (0, 12), (0, 5), (0, 5), (0, 520)], [], [], [(8, 3, 0), (7, 3, 0), (6, 3, 0), (5, 3, 0), (2, 4, 0), (1, 4, 0)]), [(280, .int 4, .retAddr 9), (280, .int 3, .retAddr 8), (280, .int 2, .retAddr 7), (280, .int 1, .retAddr 6), (280, .int 0, .retAddr 5), (244, .int 48, .retAddr 4), (244, .int 1, .retAddr 3)], [some (.ref 244), some (.retAddr 0), some (.int 3), some (.retAddr 1), some (.retAddr 2)], [(0, 1, .int 0), (0, 3, .int 0), (0, 4, .int 0), (1, 244, .int 1), (1, 244, .int 48), (1, 280, .int 0), (1, 280, .int 1), (1, 280, .int 2), (1, 280, .int 3), (1, 280, .int 4)], [(false, .int 9888), (true, .retAddr 5), (true, .retAddr 6), (true, .retAddr 7), (true, .retAddr 8), (true, .int 100), (false, .int 9760), (true, .retAddr 2)], [])
noncomputable def ax_c_231_17 : ax_ct := (240, (10, [(0, 12), (0, 12), (0, 12), (0, 12), (0, 12), (1, 5), (0, 12), (0, 5), (0, 5), (0, 520)], [], [], [(9, 3, 0), (8, 3, 0), (7, 3, 0), (6, 3, 0), (5, 3, 0), (2, 4, 0), (1, 4, 0)]), [(280, .int 4, .retAddr 9), (280, .int 3, .retAddr 8), (280, .int 2, .retAddr 7), (280, .int 1, .retAddr 6), (280, .int 0, .retAddr 5), (244, .int 48, .retAddr 4), (244, .int 1, .retAddr 3)], [some (.ref 244), some (.retAddr 0), some (.int 4), some (.retAddr 1), some (.retAddr 2)], [(0, 1, .int 0), (0, 3, .int 0), (0, 4, .int 0), (1, 244, .int 1), (1, 244, .int 48), (1, 280, .int 0), (1, 280, .int 1), (1, 280, .int 2), (1, 280, .int 3), (1, 280, .int 4)], [(false, .int 9888), (true, .retAddr 5), (true, .retAddr 6), (true, .retAddr 7), (true, .retAddr 8), (true, .retAddr 9), (false, .int 9760), (true, .retAddr 2)], [])
noncomputable def ax_t_231 : List ax_ct := [ax_c_231_0, ax_c_231_1, ax_c_231_2, ax_c_231_3, ax_c_231_4, ax_c_231_5, ax_c_231_6, ax_c_231_7, ax_c_231_8, ax_c_231_9, ax_c_231_10, ax_c_231_11, ax_c_231_12, ax_c_231_13, ax_c_231_14, ax_c_231_15, ax_c_231_16, ax_c_231_17]
noncomputable def ax_w_231 : ax_D := ([(244, 48), (244, 49)], [(279, 282)])
noncomputable def ax_p_231 : ax_po := (none, [], false, false, [])
noncomputable def ax_s_231 : ax_s9 := (231, ax_sumc ax_sp ax_c_231_0 4, ax_w_231, ax_p_231)
noncomputable def ax_l_231 : ax_Y := [ax_s_211, ax_s_226, ax_s_227, ax_s_228, ax_s_229, ax_s_230]
set_option maxRecDepth 1000000 in
theorem ax_k_231_0 : ax_cr9 ax_w_231 ax_l_231 ax_t_231 231 4 40000 ax_p_231 ax_c_231_0 = true := by decide +kernel
set_option maxRecDepth 1000000 in
theorem ax_k_231_1 : ax_cr9 ax_w_231 ax_l_231 ax_t_231 231 4 40000 ax_p_231 ax_c_231_1 = true := by decide +kernel
set_option maxRecDepth 1000000 in
theorem ax_k_231_2 : ax_cr9 ax_w_231 ax_l_231 ax_t_231 231 4 40000 ax_p_231 ax_c_231_2 = true := by decide +kernel
set_option maxRecDepth 1000000 in
theorem ax_k_231_3 : ax_cr9 ax_w_231 ax_l_231 ax_t_231 231 4 40000 ax_p_231 ax_c_231_3 = true := by decide +kernel
set_option maxRecDepth 1000000 in
theorem ax_k_231_4 : ax_cr9 ax_w_231 ax_l_231 ax_t_231 231 4 40000 ax_p_231 ax_c_231_4 = true := by decide +kernel
set_option maxRecDepth 1000000 in
theorem ax_k_231_5 : ax_cr9 ax_w_231 ax_l_231 ax_t_231 231 4 40000 ax_p_231 ax_c_231_5 = true := by decide +kernel
set_option maxRecDepth 1000000 in
theorem ax_k_231_6 : ax_cr9 ax_w_231 ax_l_231 ax_t_231 231 4 40000 ax_p_231 ax_c_231_6 = true := by decide +kernel
set_option maxRecDepth 1000000 in
theorem ax_k_231_7 : ax_cr9 ax_w_231 ax_l_231 ax_t_231 231 4 40000 ax_p_231 ax_c_231_7 = true := by decide +kernel
set_option maxRecDepth 1000000 in
theorem ax_k_231_8 : ax_cr9 ax_w_231 ax_l_231 ax_t_231 231 4 40000 ax_p_231 ax_c_231_8 = true := by decide +kernel
set_option maxRecDepth 1000000 in
theorem ax_k_231_9 : ax_cr9 ax_w_231 ax_l_231 ax_t_231 231 4 40000 ax_p_231 ax_c_231_9 = true := by decide +kernel
set_option maxRecDepth 1000000 in
theorem ax_k_231_10 : ax_cr9 ax_w_231 ax_l_231 ax_t_231 231 4 40000 ax_p_231 ax_c_231_10 = true := by decide +kernel
set_option maxRecDepth 1000000 in
theorem ax_k_231_11 : ax_cr9 ax_w_231 ax_l_231 ax_t_231 231 4 40000 ax_p_231 ax_c_231_11 = true := by decide +kernel
set_option maxRecDepth 1000000 in
theorem ax_k_231_12 : ax_cr9 ax_w_231 ax_l_231 ax_t_231 231 4 40000 ax_p_231 ax_c_231_12 = true := by decide +kernel
set_option maxRecDepth 1000000 in
theorem ax_k_231_13 : ax_cr9 ax_w_231 ax_l_231 ax_t_231 231 4 40000 ax_p_231 ax_c_231_13 = true := by decide +kernel
set_option maxRecDepth 1000000 in
theorem ax_k_231_14 : ax_cr9 ax_w_231 ax_l_231 ax_t_231 231 4 40000 ax_p_231 ax_c_231_14 = true := by decide +kernel
set_option maxRecDepth 1000000 in
theorem ax_k_231_15 : ax_cr9 ax_w_231 ax_l_231 ax_t_231 231 4 40000 ax_p_231 ax_c_231_15 = true := by decide +kernel
set_option maxRecDepth 1000000 in
theorem ax_k_231_16 : ax_cr9 ax_w_231 ax_l_231 ax_t_231 231 4 40000 ax_p_231 ax_c_231_16 = true := by decide +kernel
set_option maxRecDepth 1000000 in
theorem ax_k_231_17 : ax_cr9 ax_w_231 ax_l_231 ax_t_231 231 4 40000 ax_p_231 ax_c_231_17 = true := by decide +kernel
theorem ax_y_231 {X : Nat × (Nat → Int32)} : ax_Y1 X ax_sp ax_rf ax_s_231 := ax_meth9 (c := ax_c_231_0) (T := ax_t_231) (ax_Yc ax_y_211 (ax_Yc ax_y_226 (ax_Yc ax_y_227 (ax_Yc ax_y_228 (ax_Yc ax_y_229 (ax_Yc ax_y_230 ax_Yn)))))) ⟨ax_k_231_0, ⟨ax_k_231_1, ⟨ax_k_231_2, ⟨ax_k_231_3, ⟨ax_k_231_4, ⟨ax_k_231_5, ⟨ax_k_231_6, ⟨ax_k_231_7, ⟨ax_k_231_8, ⟨ax_k_231_9, ⟨ax_k_231_10, ⟨ax_k_231_11, ⟨ax_k_231_12, ⟨ax_k_231_13, ⟨ax_k_231_14, ⟨ax_k_231_15, ⟨ax_k_231_16, ⟨ax_k_231_17, trivial⟩⟩⟩⟩⟩⟩⟩⟩⟩⟩⟩⟩⟩⟩⟩⟩⟩⟩ List.mem_cons_self rfl
/-! Model.barn ('barn', 0) -/
noncomputable def ax_c_232_0 : ax_ct := (0, (1, [((-2147483648), 2147483647)], [], [], []), [], [some (.ref 244), some (.retAddr 0)], [(0, 1, .int 0)], [], [])
noncomputable def ax_t_232 : List ax_ct := [ax_c_232_0]
noncomputable def ax_w_232 : ax_D := ([(244, 48), (244, 49)], [(279, 282)])
noncomputable def ax_p_232 : ax_po := (some (some ((-1), 2147483647)), [], false, false, [])
noncomputable def ax_s_232 : ax_s9 := (232, ax_sumc ax_sp ax_c_232_0 5, ax_w_232, ax_p_232)
noncomputable def ax_l_232 : ax_Y := [ax_s_231]
set_option maxRecDepth 1000000 in
theorem ax_k_232_0 : ax_cr9 ax_w_232 ax_l_232 ax_t_232 232 5 40000 ax_p_232 ax_c_232_0 = true := by decide +kernel
theorem ax_y_232 {X : Nat × (Nat → Int32)} : ax_Y1 X ax_sp ax_rf ax_s_232 := ax_meth9 (c := ax_c_232_0) (T := ax_t_232) (ax_Yc ax_y_231 ax_Yn) ⟨ax_k_232_0, trivial⟩ List.mem_cons_self rfl
/-! $Barn.helperOf ((),) -/
noncomputable def ax_c_233_0 : ax_ct := (0, (1, [(0, 29)], [], [], []), [], [some (.ref 221), some (.retAddr 0), none], [(0, 1, .int 0)], [(false, .int 20000), (false, .int 0)], [])
noncomputable def ax_c_233_1 : ax_ct := (2, (2, [(0, 5), (0, 29)], [], [], []), [], [some (.ref 221), some (.retAddr 0), some (.retAddr 1)], [(0, 1, .int 0), (0, 2, .int 0)], [(false, .int 9998), (true, .retAddr 1)], [])
noncomputable def ax_t_233 : List ax_ct := [ax_c_233_0, ax_c_233_1]
noncomputable def ax_w_233 : ax_D := ([], [])
noncomputable def ax_p_233 : ax_po := (some (some ((-4), 11)), [], false, false, [])
noncomputable def ax_s_233 : ax_s9 := (7, ax_sumc ax_sp ax_c_233_0 1, ax_w_233, ax_p_233)
noncomputable def ax_l_233 : ax_Y := []
set_option maxRecDepth 1000000 in
theorem ax_k_233_0 : ax_cr9 ax_w_233 ax_l_233 ax_t_233 7 1 40000 ax_p_233 ax_c_233_0 = true := by decide +kernel
set_option maxRecDepth 1000000 in
theorem ax_k_233_1 : ax_cr9 ax_w_233 ax_l_233 ax_t_233 7 1 40000 ax_p_233 ax_c_233_1 = true := by decide +kernel
theorem ax_y_233 {X : Nat × (Nat → Int32)} : ax_Y1 X ax_sp ax_rf ax_s_233 := ax_meth9 (c := ax_c_233_0) (T := ax_t_233) ax_Yn ⟨ax_k_233_0, ⟨ax_k_233_1, trivial⟩⟩ List.mem_cons_self rfl
/-! .helper ('helper', 0) -/
noncomputable def ax_c_234_0 : ax_ct := (0, (1, [((-2147483648), 2147483647)], [], [], []), [], [some (.ref 0), some (.retAddr 0), none], [(0, 1, .int 0)], [], [])
noncomputable def ax_t_234 : List ax_ct := [ax_c_234_0]
noncomputable def ax_w_234 : ax_D := ([(221, 3), (221, 8)], [(220, 220), (222, 228)])
noncomputable def ax_p_234 : ax_po := (some (some ((-4), 11)), [], false, false, [])
noncomputable def ax_s_234 : ax_s9 := (135, ax_sumc ax_sp ax_c_234_0 13, ax_w_234, ax_p_234)
noncomputable def ax_l_234 : ax_Y := [ax_s_224, ax_s_233]
set_option maxRecDepth 1000000 in
theorem ax_k_234_0 : ax_cr9 ax_w_234 ax_l_234 ax_t_234 135 13 40000 ax_p_234 ax_c_234_0 = true := by decide +kernel
theorem ax_y_234 {X : Nat × (Nat → Int32)} : ax_Y1 X ax_sp ax_rf ax_s_234 := ax_meth9 (c := ax_c_234_0) (T := ax_t_234) (ax_Yc ax_y_224 (ax_Yc ax_y_233 ax_Yn)) ⟨ax_k_234_0, trivial⟩ List.mem_cons_self rfl
/-! Model.helper ('helper', 0) -/
noncomputable def ax_c_235_0 : ax_ct := (0, (1, [((-2147483648), 2147483647)], [], [], []), [], [some (.ref 244), some (.retAddr 0), none], [(0, 1, .int 0)], [(false, .int 20000), (false, .int 0)], [])
noncomputable def ax_c_235_1 : ax_ct := (34, (2, [(0, 5), (0, 29)], [], [], []), [], [some (.ref 244), some (.retAddr 0), some (.retAddr 1)], [(0, 1, .int 0), (0, 2, .int 0)], [(false, .int 9966), (true, .retAddr 1)], [])
noncomputable def ax_t_235 : List ax_ct := [ax_c_235_0, ax_c_235_1]
noncomputable def ax_w_235 : ax_D := ([(244, 48), (244, 49)], [(279, 282)])
noncomputable def ax_p_235 : ax_po := (some (some ((-4), 11)), [], false, false, [])
noncomputable def ax_s_235 : ax_s9 := (233, ax_sumc ax_sp ax_c_235_0 5, ax_w_235, ax_p_235)
noncomputable def ax_l_235 : ax_Y := [ax_s_231]
set_option maxRecDepth 1000000 in
theorem ax_k_235_0 : ax_cr9 ax_w_235 ax_l_235 ax_t_235 233 5 40000 ax_p_235 ax_c_235_0 = true := by decide +kernel
set_option maxRecDepth 1000000 in
theorem ax_k_235_1 : ax_cr9 ax_w_235 ax_l_235 ax_t_235 233 5 40000 ax_p_235 ax_c_235_1 = true := by decide +kernel
theorem ax_y_235 {X : Nat × (Nat → Int32)} : ax_Y1 X ax_sp ax_rf ax_s_235 := ax_meth9 (c := ax_c_235_0) (T := ax_t_235) (ax_Yc ax_y_231 ax_Yn) ⟨ax_k_235_0, ⟨ax_k_235_1, trivial⟩⟩ List.mem_cons_self rfl
/-! $Book.doubtedStill ((),) -/
noncomputable def ax_c_236_0 : ax_ct := (0, (1, [(0, 150)], [], [], []), [(14, .int 16, .retAddr 0)], [some (.ref 14), none, none], [(1, 14, .int 16)], [(false, .int 20000), (false, .int 0)], [])
noncomputable def ax_c_236_1 : ax_ct := (4, (3, [(0, 150), (0, 150), (0, 150)], [], [], [(1, 2, 0), (0, 2, 0), (0, 1, 0)]), [(14, .int 16, .retAddr 2)], [some (.ref 14), some (.retAddr 0), some (.retAddr 1)], [(0, 1, .int 0), (0, 2, .int 0), (1, 14, .int 16)], [(false, .int 9996), (true, .retAddr 1)], [])
noncomputable def ax_t_236 : List ax_ct := [ax_c_236_0, ax_c_236_1]
noncomputable def ax_w_236 : ax_D := ([], [])
noncomputable def ax_p_236 : ax_po := (some (some (0, 150)), [], false, false, [])
noncomputable def ax_s_236 : ax_s9 := (24, ax_sumc ax_sp ax_c_236_0 2, ax_w_236, ax_p_236)
noncomputable def ax_l_236 : ax_Y := [ax_s_107]
set_option maxRecDepth 1000000 in
theorem ax_k_236_0 : ax_cr9 ax_w_236 ax_l_236 ax_t_236 24 2 40000 ax_p_236 ax_c_236_0 = true := by decide +kernel
set_option maxRecDepth 1000000 in
theorem ax_k_236_1 : ax_cr9 ax_w_236 ax_l_236 ax_t_236 24 2 40000 ax_p_236 ax_c_236_1 = true := by decide +kernel
theorem ax_y_236 {X : Nat × (Nat → Int32)} : ax_Y1 X ax_sp ax_rf ax_s_236 := ax_meth9 (c := ax_c_236_0) (T := ax_t_236) (ax_Yc ax_y_107 ax_Yn) ⟨ax_k_236_0, ⟨ax_k_236_1, trivial⟩⟩ List.mem_cons_self rfl
/-! $Folk.deadOnes ((),) -/
noncomputable def ax_c_237_0 : ax_ct := (0, (0, [], [], [], []), [], [some (.ref 1), none, none], [], [(false, .int 20000), (false, .int 0)], [])
noncomputable def ax_c_237_1 : ax_ct := (4, (2, [(0, 12), (0, 12)], [], [], [(0, 1, 0)]), [], [some (.ref 1), some (.retAddr 0), some (.retAddr 1)], [(0, 1, .int 0), (0, 2, .int 0)], [(false, .int 9996), (true, .retAddr 1)], [])
noncomputable def ax_t_237 : List ax_ct := [ax_c_237_0, ax_c_237_1]
noncomputable def ax_w_237 : ax_D := ([], [])
noncomputable def ax_p_237 : ax_po := (some (some (0, 12)), [], false, false, [])
noncomputable def ax_s_237 : ax_s9 := (47, ax_sumc ax_sp ax_c_237_0 1, ax_w_237, ax_p_237)
noncomputable def ax_l_237 : ax_Y := []
set_option maxRecDepth 1000000 in
theorem ax_k_237_0 : ax_cr9 ax_w_237 ax_l_237 ax_t_237 47 1 40000 ax_p_237 ax_c_237_0 = true := by decide +kernel
set_option maxRecDepth 1000000 in
theorem ax_k_237_1 : ax_cr9 ax_w_237 ax_l_237 ax_t_237 47 1 40000 ax_p_237 ax_c_237_1 = true := by decide +kernel
theorem ax_y_237 {X : Nat × (Nat → Int32)} : ax_Y1 X ax_sp ax_rf ax_s_237 := ax_meth9 (c := ax_c_237_0) (T := ax_t_237) ax_Yn ⟨ax_k_237_0, ⟨ax_k_237_1, trivial⟩⟩ List.mem_cons_self rfl
/-! $Needs.openOnes ((),) -/
noncomputable def ax_c_238_0 : ax_ct := (0, (0, [], [], [], []), [], [some (.ref 214), none, none], [], [(false, .int 20000), (false, .int 0)], [])
noncomputable def ax_c_238_1 : ax_ct := (4, (2, [(0, 30), (0, 30)], [], [], [(0, 1, 0)]), [], [some (.ref 214), some (.retAddr 0), some (.retAddr 1)], [(0, 1, .int 0), (0, 2, .int 0)], [(false, .int 9996), (true, .retAddr 1)], [])
noncomputable def ax_t_238 : List ax_ct := [ax_c_238_0, ax_c_238_1]
noncomputable def ax_w_238 : ax_D := ([], [])
noncomputable def ax_p_238 : ax_po := (some (some (0, 30)), [], false, false, [])
noncomputable def ax_s_238 : ax_s9 := (58, ax_sumc ax_sp ax_c_238_0 1, ax_w_238, ax_p_238)
noncomputable def ax_l_238 : ax_Y := []
set_option maxRecDepth 1000000 in
theorem ax_k_238_0 : ax_cr9 ax_w_238 ax_l_238 ax_t_238 58 1 40000 ax_p_238 ax_c_238_0 = true := by decide +kernel
set_option maxRecDepth 1000000 in
theorem ax_k_238_1 : ax_cr9 ax_w_238 ax_l_238 ax_t_238 58 1 40000 ax_p_238 ax_c_238_1 = true := by decide +kernel
theorem ax_y_238 {X : Nat × (Nat → Int32)} : ax_Y1 X ax_sp ax_rf ax_s_238 := ax_meth9 (c := ax_c_238_0) (T := ax_t_238) ax_Yn ⟨ax_k_238_0, ⟨ax_k_238_1, trivial⟩⟩ List.mem_cons_self rfl
/-! .count ('count', 0) -/
noncomputable def ax_c_239_0 : ax_ct := (0, (1, [((-2147483648), 2147483647)], [], [], []), [], [some (.ref 0), some (.retAddr 0)], [(0, 1, .int 0)], [], [])
noncomputable def ax_t_239 : List ax_ct := [ax_c_239_0]
noncomputable def ax_w_239 : ax_D := ([], [])
noncomputable def ax_p_239 : ax_po := (some (some ((-1), 520)), [], false, false, [])
noncomputable def ax_s_239 : ax_s9 := (136, ax_sumc ax_sp ax_c_239_0 3, ax_w_239, ax_p_239)
noncomputable def ax_l_239 : ax_Y := [ax_s_236, ax_s_237, ax_s_238]
set_option maxRecDepth 1000000 in
theorem ax_k_239_0 : ax_cr9 ax_w_239 ax_l_239 ax_t_239 136 3 40000 ax_p_239 ax_c_239_0 = true := by decide +kernel
theorem ax_y_239 {X : Nat × (Nat → Int32)} : ax_Y1 X ax_sp ax_rf ax_s_239 := ax_meth9 (c := ax_c_239_0) (T := ax_t_239) (ax_Yc ax_y_236 (ax_Yc ax_y_237 (ax_Yc ax_y_238 ax_Yn))) ⟨ax_k_239_0, trivial⟩ List.mem_cons_self rfl
/-! Model.unjudged ((),) -/
noncomputable def ax_c_240_0 : ax_ct := (0, (1, [(0, 150)], [], [], []), [(244, .int 7, .retAddr 0)], [some (.ref 244), none, none, none, none], [(1, 244, .int 7)], [(false, .int 20000), (false, .int 0), (false, .int 20000), (false, .int 0)], [])
noncomputable def ax_c_240_1 : ax_ct := (4, (3, [(0, 150), (0, 150), (0, 150)], [], [], [(1, 2, 0), (0, 2, 0), (0, 1, 0)]), [(244, .int 7, .retAddr 2)], [some (.ref 244), some (.retAddr 0), some (.retAddr 1), none, none], [(0, 1, .int 0), (0, 2, .int 0), (1, 244, .int 7)], [(false, .int 9996), (true, .retAddr 1), (false, .int 20000), (false, .int 0)], [])
noncomputable def ax_c_240_2 : ax_ct := (41, (5, [(1, 150), (0, 150), (0, 1), (0, 149), (0, 149)], [], [], [(3, 4, 0), (2, 3, 0), (1, 4, 1), (0, 4, 1), (0, 1, 0)]), [(244, .int 7, .retAddr 4)], [some (.ref 244), some (.retAddr 0), some (.retAddr 1), some (.retAddr 2), some (.retAddr 3)], [(0, 1, .int 0), (0, 2, .int 0), (0, 3, .int 0), (0, 4, .int 0), (1, 244, .int 7)], [(false, .int 9996), (true, .retAddr 1), (false, .int 9959), (true, .retAddr 3)], [])
noncomputable def ax_t_240 : List ax_ct := [ax_c_240_0, ax_c_240_1, ax_c_240_2]
noncomputable def ax_w_240 : ax_D := ([], [])
noncomputable def ax_p_240 : ax_po := (some (some (0, 150)), [], false, false, [])
noncomputable def ax_s_240 : ax_s9 := (234, ax_sumc ax_sp ax_c_240_0 1, ax_w_240, ax_p_240)
noncomputable def ax_l_240 : ax_Y := []
set_option maxRecDepth 1000000 in
theorem ax_k_240_0 : ax_cr9 ax_w_240 ax_l_240 ax_t_240 234 1 40000 ax_p_240 ax_c_240_0 = true := by decide +kernel
set_option maxRecDepth 1000000 in
theorem ax_k_240_1 : ax_cr9 ax_w_240 ax_l_240 ax_t_240 234 1 40000 ax_p_240 ax_c_240_1 = true := by decide +kernel
set_option maxRecDepth 1000000 in
theorem ax_k_240_2 : ax_cr9 ax_w_240 ax_l_240 ax_t_240 234 1 40000 ax_p_240 ax_c_240_2 = true := by decide +kernel
theorem ax_y_240 {X : Nat × (Nat → Int32)} : ax_Y1 X ax_sp ax_rf ax_s_240 := ax_meth9 (c := ax_c_240_0) (T := ax_t_240) ax_Yn ⟨ax_k_240_0, ⟨ax_k_240_1, ⟨ax_k_240_2, trivial⟩⟩⟩ List.mem_cons_self rfl
/-! Model.count ('count', 0) -/
noncomputable def ax_c_241_0 : ax_ct := (0, (1, [((-2147483648), 2147483647)], [], [], []), [], [some (.ref 244), some (.retAddr 0), none, none], [(0, 1, .int 0)], [(false, .int 20000), (false, .int 0)], [])
noncomputable def ax_c_241_1 : ax_ct := (66, (3, [(0, 30), (0, 30), (4, 4)], [], [], [(1, 2, 0)]), [], [some (.ref 244), some (.retAddr 0), some (.retAddr 1), some (.retAddr 2)], [(0, 1, .int 0), (0, 2, .int 0), (0, 3, .int 0)], [(false, .int 9934), (true, .retAddr 2)], [])
noncomputable def ax_c_241_2 : ax_ct := (101, (3, [(0, 12), (0, 12), (5, 5)], [], [], [(1, 2, 0)]), [], [some (.ref 244), some (.retAddr 0), some (.retAddr 1), some (.retAddr 2)], [(0, 1, .int 0), (0, 2, .int 0), (0, 3, .int 0)], [(false, .int 9899), (true, .retAddr 2)], [])
noncomputable def ax_t_241 : List ax_ct := [ax_c_241_0, ax_c_241_1, ax_c_241_2]
noncomputable def ax_w_241 : ax_D := ([], [])
noncomputable def ax_p_241 : ax_po := (some (some ((-1), 520)), [], false, false, [])
noncomputable def ax_s_241 : ax_s9 := (235, ax_sumc ax_sp ax_c_241_0 3, ax_w_241, ax_p_241)
noncomputable def ax_l_241 : ax_Y := [ax_s_240, ax_s_75]
set_option maxRecDepth 1000000 in
theorem ax_k_241_0 : ax_cr9 ax_w_241 ax_l_241 ax_t_241 235 3 40000 ax_p_241 ax_c_241_0 = true := by decide +kernel
set_option maxRecDepth 1000000 in
theorem ax_k_241_1 : ax_cr9 ax_w_241 ax_l_241 ax_t_241 235 3 40000 ax_p_241 ax_c_241_1 = true := by decide +kernel
set_option maxRecDepth 1000000 in
theorem ax_k_241_2 : ax_cr9 ax_w_241 ax_l_241 ax_t_241 235 3 40000 ax_p_241 ax_c_241_2 = true := by decide +kernel
theorem ax_y_241 {X : Nat × (Nat → Int32)} : ax_Y1 X ax_sp ax_rf ax_s_241 := ax_meth9 (c := ax_c_241_0) (T := ax_t_241) (ax_Yc ax_y_240 (ax_Yc ax_y_75 ax_Yn)) ⟨ax_k_241_0, ⟨ax_k_241_1, ⟨ax_k_241_2, trivial⟩⟩⟩ List.mem_cons_self rfl
/-! .keep ('keep', 0) -/
noncomputable def ax_c_242_0 : ax_ct := (0, (3, [((-2147483648), 2147483647), ((-2147483648), 2147483647), ((-2147483648), 2147483647)], [], [], []), [], [some (.ref 0), some (.retAddr 0), some (.retAddr 1), some (.retAddr 2)], [(0, 1, .int 0), (0, 2, .int 0), (0, 3, .int 0)], [], [])
noncomputable def ax_t_242 : List ax_ct := [ax_c_242_0]
noncomputable def ax_w_242 : ax_D := ([], [(230, 232)])
noncomputable def ax_p_242 : ax_po := (some (some ((-1), 0)), [], false, false, [])
noncomputable def ax_s_242 : ax_s9 := (137, ax_sumc ax_sp ax_c_242_0 2, ax_w_242, ax_p_242)
noncomputable def ax_l_242 : ax_Y := []
set_option maxRecDepth 1000000 in
theorem ax_k_242_0 : ax_cr9 ax_w_242 ax_l_242 ax_t_242 137 2 40000 ax_p_242 ax_c_242_0 = true := by decide +kernel
theorem ax_y_242 {X : Nat × (Nat → Int32)} : ax_Y1 X ax_sp ax_rf ax_s_242 := ax_meth9 (c := ax_c_242_0) (T := ax_t_242) ax_Yn ⟨ax_k_242_0, trivial⟩ List.mem_cons_self rfl
/-! Model.keep ('keep', 0) -/
noncomputable def ax_c_243_0 : ax_ct := (0, (3, [((-2147483648), 2147483647), ((-2147483648), 2147483647), ((-2147483648), 2147483647)], [], [], []), [], [some (.ref 244), some (.retAddr 0), some (.retAddr 1), some (.retAddr 2)], [(0, 1, .int 0), (0, 2, .int 0), (0, 3, .int 0)], [], [])
noncomputable def ax_t_243 : List ax_ct := [ax_c_243_0]
noncomputable def ax_w_243 : ax_D := ([], [(283, 284), (288, 288)])
noncomputable def ax_p_243 : ax_po := (some (some ((-1), 0)), [], false, false, [])
noncomputable def ax_s_243 : ax_s9 := (237, ax_sumc ax_sp ax_c_243_0 3, ax_w_243, ax_p_243)
noncomputable def ax_l_243 : ax_Y := [ax_s_75]
set_option maxRecDepth 1000000 in
theorem ax_k_243_0 : ax_cr9 ax_w_243 ax_l_243 ax_t_243 237 3 40000 ax_p_243 ax_c_243_0 = true := by decide +kernel
theorem ax_y_243 {X : Nat × (Nat → Int32)} : ax_Y1 X ax_sp ax_rf ax_s_243 := ax_meth9 (c := ax_c_243_0) (T := ax_t_243) (ax_Yc ax_y_75 ax_Yn) ⟨ax_k_243_0, trivial⟩ List.mem_cons_self rfl
/-! .row ('row', 0) -/
noncomputable def ax_c_244_0 : ax_ct := (0, (3, [((-2147483648), 2147483647), ((-2147483648), 2147483647), ((-2147483648), 2147483647)], [], [], []), [], [some (.ref 0), some (.retAddr 0), some (.retAddr 1), some (.retAddr 2)], [(0, 1, .int 0), (0, 2, .int 0), (0, 3, .int 0)], [], [])
noncomputable def ax_t_244 : List ax_ct := [ax_c_244_0]
noncomputable def ax_w_244 : ax_D := ([], [(230, 230), (233, 234), (236, 243)])
noncomputable def ax_p_244 : ax_po := (some (some ((-15), 0)), [], false, false, [])
noncomputable def ax_s_244 : ax_s9 := (138, ax_sumc ax_sp ax_c_244_0 2, ax_w_244, ax_p_244)
noncomputable def ax_l_244 : ax_Y := []
set_option maxRecDepth 1000000 in
theorem ax_k_244_0 : ax_cr9 ax_w_244 ax_l_244 ax_t_244 138 2 40000 ax_p_244 ax_c_244_0 = true := by decide +kernel
theorem ax_y_244 {X : Nat × (Nat → Int32)} : ax_Y1 X ax_sp ax_rf ax_s_244 := ax_meth9 (c := ax_c_244_0) (T := ax_t_244) ax_Yn ⟨ax_k_244_0, trivial⟩ List.mem_cons_self rfl
/-! Model.row ('row', 0) -/
noncomputable def ax_c_245_0 : ax_ct := (0, (3, [((-2147483648), 2147483647), ((-2147483648), 2147483647), ((-2147483648), 2147483647)], [], [], []), [], [some (.ref 244), some (.retAddr 0), some (.retAddr 1), some (.retAddr 2), none], [(0, 1, .int 0), (0, 2, .int 0), (0, 3, .int 0)], [(false, .int 20000), (false, .int 0)], [])
noncomputable def ax_c_245_1 : ax_ct := (57, (4, [(0, 80), (0, 80), (0, 2), (0, 7)], [], [], []), [], [some (.ref 244), some (.retAddr 0), some (.retAddr 1), some (.retAddr 2), some (.retAddr 3)], [(0, 1, .int 0), (0, 2, .int 0), (0, 3, .int 0), (0, 4, .int 0)], [(false, .int 9943), (true, .retAddr 3)], [])
noncomputable def ax_t_245 : List ax_ct := [ax_c_245_0, ax_c_245_1]
noncomputable def ax_w_245 : ax_D := ([], [(283, 283), (285, 287)])
noncomputable def ax_p_245 : ax_po := (some (some ((-15), 0)), [], false, false, [])
noncomputable def ax_s_245 : ax_s9 := (238, ax_sumc ax_sp ax_c_245_0 2, ax_w_245, ax_p_245)
noncomputable def ax_l_245 : ax_Y := []
set_option maxRecDepth 1000000 in
theorem ax_k_245_0 : ax_cr9 ax_w_245 ax_l_245 ax_t_245 238 2 40000 ax_p_245 ax_c_245_0 = true := by decide +kernel
set_option maxRecDepth 1000000 in
theorem ax_k_245_1 : ax_cr9 ax_w_245 ax_l_245 ax_t_245 238 2 40000 ax_p_245 ax_c_245_1 = true := by decide +kernel
theorem ax_y_245 {X : Nat × (Nat → Int32)} : ax_Y1 X ax_sp ax_rf ax_s_245 := ax_meth9 (c := ax_c_245_0) (T := ax_t_245) ax_Yn ⟨ax_k_245_0, ⟨ax_k_245_1, trivial⟩⟩ List.mem_cons_self rfl
/-! .put ('put', 0) -/
noncomputable def ax_c_246_0 : ax_ct := (0, (3, [((-2147483648), 2147483647), ((-2147483648), 2147483647), ((-2147483648), 2147483647)], [], [], []), [], [some (.ref 0), some (.retAddr 0), some (.retAddr 1), some (.retAddr 2), none], [(0, 1, .int 0), (0, 2, .int 0), (0, 3, .int 0)], [], [])
noncomputable def ax_t_246 : List ax_ct := [ax_c_246_0]
noncomputable def ax_w_246 : ax_D := ([], [(236, 243)])
noncomputable def ax_p_246 : ax_po := (some (some ((-15), 0)), [], false, false, [])
noncomputable def ax_s_246 : ax_s9 := (139, ax_sumc ax_sp ax_c_246_0 3, ax_w_246, ax_p_246)
noncomputable def ax_l_246 : ax_Y := []
set_option maxRecDepth 1000000 in
theorem ax_k_246_0 : ax_cr9 ax_w_246 ax_l_246 ax_t_246 139 3 40000 ax_p_246 ax_c_246_0 = true := by decide +kernel
theorem ax_y_246 {X : Nat × (Nat → Int32)} : ax_Y1 X ax_sp ax_rf ax_s_246 := ax_meth9 (c := ax_c_246_0) (T := ax_t_246) ax_Yn ⟨ax_k_246_0, trivial⟩ List.mem_cons_self rfl
/-! Model.put ('put', 0) -/
noncomputable def ax_c_247_0 : ax_ct := (0, (3, [((-2147483648), 2147483647), ((-2147483648), 2147483647), ((-2147483648), 2147483647)], [], [], []), [], [some (.ref 244), some (.retAddr 0), some (.retAddr 1), some (.retAddr 2)], [(0, 1, .int 0), (0, 2, .int 0), (0, 3, .int 0)], [], [])
noncomputable def ax_t_247 : List ax_ct := [ax_c_247_0]
noncomputable def ax_w_247 : ax_D := ([], [(287, 287)])
noncomputable def ax_p_247 : ax_po := (some (some ((-15), 0)), [], false, false, [])
noncomputable def ax_s_247 : ax_s9 := (240, ax_sumc ax_sp ax_c_247_0 2, ax_w_247, ax_p_247)
noncomputable def ax_l_247 : ax_Y := []
set_option maxRecDepth 1000000 in
theorem ax_k_247_0 : ax_cr9 ax_w_247 ax_l_247 ax_t_247 240 2 40000 ax_p_247 ax_c_247_0 = true := by decide +kernel
theorem ax_y_247 {X : Nat × (Nat → Int32)} : ax_Y1 X ax_sp ax_rf ax_s_247 := ax_meth9 (c := ax_c_247_0) (T := ax_t_247) ax_Yn ⟨ax_k_247_0, trivial⟩ List.mem_cons_self rfl
/-! Model.element ('element', 0) -/
noncomputable def ax_c_249_0 : ax_ct := (0, (2, [((-2147483648), 2147483647), ((-2147483648), 2147483647)], [], [], []), [], [some (.ref 244), some (.retAddr 0), some (.retAddr 1)], [(0, 1, .int 0), (0, 2, .int 0)], [], [])
noncomputable def ax_t_249 : List ax_ct := [ax_c_249_0]
noncomputable def ax_w_249 : ax_D := ([(244, 0)], [])
noncomputable def ax_p_249 : ax_po := (some none, [], false, false, [])
noncomputable def ax_s_249 : ax_s9 := (241, ax_sumc ax_sp ax_c_249_0 2, ax_w_249, ax_p_249)
noncomputable def ax_l_249 : ax_Y := []
set_option maxRecDepth 1000000 in
theorem ax_k_249_0 : ax_cr9 ax_w_249 ax_l_249 ax_t_249 241 2 40000 ax_p_249 ax_c_249_0 = true := by decide +kernel
theorem ax_y_249 {X : Nat × (Nat → Int32)} : ax_Y1 X ax_sp ax_rf ax_s_249 := ax_meth9 (c := ax_c_249_0) (T := ax_t_249) ax_Yn ⟨ax_k_249_0, trivial⟩ List.mem_cons_self rfl
