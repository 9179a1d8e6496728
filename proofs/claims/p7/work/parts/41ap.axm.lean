/-! Model.copy ('copy', 0) -/
noncomputable def ax_c_251_0 : ax_ct := (0, (5, [((-2147483648), 2147483647), ((-2147483648), 2147483647), ((-2147483648), 2147483647), ((-2147483648), 2147483647), ((-2147483648), 2147483647)], [], [], []), [], [some (.ref 244), some (.retAddr 0), some (.retAddr 1), some (.retAddr 2), some (.retAddr 3), some (.retAddr 4), none], [(0, 1, .int 0), (0, 2, .int 0), (0, 3, .int 0), (0, 4, .int 0), (0, 5, .int 0)], [(false, .int 20000), (false, .int 0)], [])
noncomputable def ax_c_251_1 : ax_ct := (124, (5, [(0, 0), (0, 80), (0, 7), (0, 80), (0, 7)], [], [], []), [], [some (.ref 244), some (.retAddr 0), some (.retAddr 1), some (.retAddr 2), some (.retAddr 3), some (.int 0), some (.retAddr 4)], [(0, 1, .int 0), (0, 2, .int 0), (0, 3, .int 0), (0, 4, .int 0), (0, 6, .int 0)], [(false, .int 9876), (true, .retAddr 4)], [])
noncomputable def ax_c_251_2 : ax_ct := (124, (5, [(0, 1), (0, 79), (0, 7), (0, 79), (0, 7)], [], [], []), [], [some (.ref 244), some (.retAddr 0), some (.retAddr 1), some (.retAddr 2), some (.retAddr 3), some (.int 1), some (.retAddr 4)], [(0, 1, .int 0), (0, 2, .int 0), (0, 3, .int 0), (0, 4, .int 0), (0, 6, .int 0)], [(false, .int 9876), (true, .retAddr 4)], [])
noncomputable def ax_c_251_3 : ax_ct := (124, (5, [(0, 11), (0, 70), (0, 7), (0, 70), (0, 7)], [], [], []), [], [some (.ref 244), some (.retAddr 0), some (.retAddr 1), some (.retAddr 2), some (.retAddr 3), some (.int 10), some (.retAddr 4)], [(0, 1, .int 0), (0, 2, .int 0), (0, 3, .int 0), (0, 4, .int 0), (0, 6, .int 0)], [(false, .int 9876), (true, .retAddr 4)], [])
noncomputable def ax_c_251_4 : ax_ct := (124, (5, [(0, 11), (0, 69), (0, 7), (0, 69), (0, 7)], [], [], []), [], [some (.ref 244), some (.retAddr 0), some (.retAddr 1), some (.retAddr 2), some (.retAddr 3), some (.int 11), some (.retAddr 4)], [(0, 1, .int 0), (0, 2, .int 0), (0, 3, .int 0), (0, 4, .int 0), (0, 6, .int 0)], [(false, .int 9876), (true, .retAddr 4)], [])
noncomputable def ax_c_251_5 : ax_ct := (124, (5, [(0, 12), (0, 68), (0, 7), (0, 68), (0, 7)], [], [], []), [], [some (.ref 244), some (.retAddr 0), some (.retAddr 1), some (.retAddr 2), some (.retAddr 3), some (.int 12), some (.retAddr 4)], [(0, 1, .int 0), (0, 2, .int 0), (0, 3, .int 0), (0, 4, .int 0), (0, 6, .int 0)], [(false, .int 9876), (true, .retAddr 4)], [])
noncomputable def ax_c_251_6 : ax_ct := (124, (5, [(0, 13), (0, 67), (0, 7), (0, 67), (0, 7)], [], [], []), [], [some (.ref 244), some (.retAddr 0), some (.retAddr 1), some (.retAddr 2), some (.retAddr 3), some (.int 13), some (.retAddr 4)], [(0, 1, .int 0), (0, 2, .int 0), (0, 3, .int 0), (0, 4, .int 0), (0, 6, .int 0)], [(false, .int 9876), (true, .retAddr 4)], [])
noncomputable def ax_c_251_7 : ax_ct := (124, (5, [(0, 15), (0, 66), (0, 7), (0, 66), (0, 7)], [], [], []), [], [some (.ref 244), some (.retAddr 0), some (.retAddr 1), some (.retAddr 2), some (.retAddr 3), some (.int 14), some (.retAddr 4)], [(0, 1, .int 0), (0, 2, .int 0), (0, 3, .int 0), (0, 4, .int 0), (0, 6, .int 0)], [(false, .int 9876), (true, .retAddr 4)], [])
noncomputable def ax_c_251_8 : ax_ct := (124, (5, [(0, 15), (0, 65), (0, 7), (0, 65), (0, 7)], [], [], []), [], [some (.ref 244), some (.retAddr 0), some (.retAddr 1), some (.retAddr 2), some (.retAddr 3), some (.int 15), some (.retAddr 4)], [(0, 1, .int 0), (0, 2, .int 0), (0, 3, .int 0), (0, 4, .int 0), (0, 6, .int 0)], [(false, .int 9876), (true, .retAddr 4)], [])
noncomputable def ax_c_251_9 : ax_ct := (124, (5, [(0, 20), (0, 64), (0, 7), (0, 64), (0, 7)], [], [], []), [], [some (.ref 244), some (.retAddr 0), some (.retAddr 1), some (.retAddr 2), some (.retAddr 3), some (.int 16), some (.retAddr 4)], [(0, 1, .int 0), (0, 2, .int 0), (0, 3, .int 0), (0, 4, .int 0), (0, 6, .int 0)], [(false, .int 9876), (true, .retAddr 4)], [])
noncomputable def ax_c_251_10 : ax_ct := (124, (5, [(0, 20), (0, 63), (0, 7), (0, 63), (0, 7)], [], [], []), [], [some (.ref 244), some (.retAddr 0), some (.retAddr 1), some (.retAddr 2), some (.retAddr 3), some (.int 17), some (.retAddr 4)], [(0, 1, .int 0), (0, 2, .int 0), (0, 3, .int 0), (0, 4, .int 0), (0, 6, .int 0)], [(false, .int 9876), (true, .retAddr 4)], [])
noncomputable def ax_c_251_11 : ax_ct := (124, (5, [(0, 20), (0, 62), (0, 7), (0, 62), (0, 7)], [], [], []), [], [some (.ref 244), some (.retAddr 0), some (.retAddr 1), some (.retAddr 2), some (.retAddr 3), some (.int 18), some (.retAddr 4)], [(0, 1, .int 0), (0, 2, .int 0), (0, 3, .int 0), (0, 4, .int 0), (0, 6, .int 0)], [(false, .int 9876), (true, .retAddr 4)], [])
noncomputable def ax_c_251_12 : ax_ct := (124, (5, [(0, 20), (0, 61), (0, 7), (0, 61), (0, 7)], [], [], []), [], [some (.ref 244), some (.retAddr 0), some (.retAddr 1), some (.retAddr 2), some (.retAddr 3), some (.int 19), some (.retAddr 4)], [(0, 1, .int 0), (0, 2, .int 0), (0, 3, .int 0), (0, 4, .int 0), (0, 6, .int 0)], [(false, .int 9876), (true, .retAddr 4)], [])
noncomputable def ax_c_251_13 : ax_ct := (124, (5, [(0, 2), (0, 78), (0, 7), (0, 78), (0, 7)], [], [], []), [], [some (.ref 244), some (.retAddr 0), some (.retAddr 1), some (.retAddr 2), some (.retAddr 3), some (.int 2), some (.retAddr 4)], [(0, 1, .int 0), (0, 2, .int 0), (0, 3, .int 0), (0, 4, .int 0), (0, 6, .int 0)], [(false, .int 9876), (true, .retAddr 4)], [])
noncomputable def ax_c_251_14 : ax_ct := (124, (5, [(0, 20), (0, 60), (0, 7), (0, 60), (0, 7)], [], [], []), [], [some (.ref 244), some (.retAddr 0), some (.retAddr 1), some (.retAddr 2), some (.retAddr 3), some (.int 20), some (.retAddr 4)], [(0, 1, .int 0), (0, 2, .int 0), (0, 3, .int 0), (0, 4, .int 0), (0, 6, .int 0)], [(false, .int 9876), (true, .retAddr 4)], [])
noncomputable def ax_c_251_15 : ax_ct := (124, (5, [(0, 23), (0, 59), (0, 7), (0, 59), (0, 7)], [], [], []), [], [some (.ref 244), some (.retAddr 0), some (.retAddr 1), some (.retAddr 2), some (.retAddr 3), some (.int 21), some (.retAddr 4)], [(0, 1, .int 0), (0, 2, .int 0), (0, 3, .int 0), (0, 4, .int 0), (0, 6, .int 0)], [(false, .int 9876), (true, .retAddr 4)], [])
noncomputable def ax_c_251_16 : ax_ct := (124, (5, [(0, 23), (0, 58), (0, 7), (0, 58), (0, 7)], [], [], []), [], [some (.ref 244), some (.retAddr 0), some (.retAddr 1), some (.retAddr 2), some (.retAddr 3), some (.int 22), some (.retAddr 4)], [(0, 1, .int 0), (0, 2, .int 0), (0, 3, .int 0), (0, 4, .int 0), (0, 6, .int 0)], [(false, .int 9876), (true, .retAddr 4)], [])
noncomputable def ax_c_251_17 : ax_ct := (124, (5, [(0, 23), (0, 57), (0, 7), (0, 57), (0, 7)], [], [], []), [], [some (.ref 244), some (.retAddr 0), some (.retAddr 1), some (.retAddr 2), some (.retAddr 3), some (.int 23), some (.retAddr 4)], [(0, 1, .int 0), (0, 2, .int 0), (0, 3, .int 0), (0, 4, .int 0), (0, 6, .int 0)], [(false, .int 9876), (true, .retAddr 4)], [])
noncomputable def ax_c_251_18 : ax_ct := (124, (5, [(0, 24), (0, 56), (0, 7), (0, 56), (0, 7)], [], [], []), [], [some (.ref 244), some (.retAddr 0), some (.retAddr 1), some (.retAddr 2), some (.retAddr 3), some (.int 24), some (.retAddr 4)], [(0, 1, .int 0), (0, 2, .int 0), (0, 3, .int 0), (0, 4, .int 0), (0, 6, .int 0)], [(false, .int 9876), (true, .retAddr 4)], [])
noncomputable def ax_c_251_19 : ax_ct := (124, (5, [(0, 29), (0, 55), (0, 7), (0, 55), (0, 7)], [], [], []), [], [some (.ref 244), some (.retAddr 0), some (.retAddr 1), some (.retAddr 2), some (.retAddr 3), some (.int 25), some (.retAddr 4)], [(0, 1, .int 0), (0, 2, .int 0), (0, 3, .int 0), (0, 4, .int 0), (0, 6, .int 0)], [(false, .int 9876), (true, .retAddr 4)], [])
noncomputable def ax_c_251_20 : ax_ct := (124, (5, [(0, 29), (0, 54), (0, 7), (0, 54), (0, 7)], [], [], []), [], [some (.ref 244), some (.retAddr 0), some (.retAddr 1), some (.retAddr 2), some (.retAddr 3), some (.int 26), some (.retAddr 4)], [(0, 1, .int 0), (0, 2, .int 0), (0, 3, .int 0), (0, 4, .int 0), (0, 6, .int 0)], [(false, .int 9876), (true, .retAddr 4)], [])
noncomputable def ax_c_251_21 : ax_ct := (124, (5, [(0, 29), (0, 53), (0, 7), (0, 53), (0, 7)], [], [], []), [], [some (.ref 244), some (.retAddr 0), some (.retAddr 1), some (.retAddr 2), some (.retAddr 3), some (.int 27), some (.retAddr 4)], [(0, 1, .int 0), (0, 2, .int 0), (0, 3, .int 0), (0, 4, .int 0), (0, 6, .int 0)], [(false, .int 9876), (true, .retAddr 4)], [])
noncomputable def ax_c_251_22 : ax_ct := (124, (5, [(0, 29), (0, 52), (0, 7), (0, 52), (0, 7)], [], [], []), [], [some (.ref 244), some (.retAddr 0), some (.retAddr 1), some (.retAddr 2), some (.retAddr 3), some (.int 28), some (.retAddr 4)], [(0, 1, .int 0), (0, 2, .int 0), (0, 3, .int 0), (0, 4, .int 0), (0, 6, .int 0)], [(false, .int 9876), (true, .retAddr 4)], [])
noncomputable def ax_c_251_23 : ax_ct := (124, (5, [(0, 29), (0, 51), (0, 7), (0, 51), (0, 7)], [], [], []), [], [some (.ref 244), some (.retAddr 0), some (.retAddr 1), some (.retAddr 2), some (.retAddr 3), some (.int 29), some (.retAddr 4)], [(0, 1, .int 0), (0, 2, .int 0), (0, 3, .int 0), (0, 4, .int 0), (0, 6, .int 0)], [(false, .int 9876), (true, .retAddr 4)], [])
noncomputable def ax_c_251_24 : ax_ct := (124, (5, [(0, 3), (0, 77), (0, 7), (0, 77), (0, 7)], [], [], []), [], [some (.ref 244), some (.retAddr 0), some (.retAddr 1), some (.retAddr 2), some (.retAddr 3), some (.int 3), some (.retAddr 4)], [(0, 1, .int 0), (0, 2, .int 0), (0, 3, .int 0), (0, 4, .int 0), (0, 6, .int 0)], [(false, .int 9876), (true, .retAddr 4)], [])
noncomputable def ax_c_251_25 : ax_ct := (124, (5, [(0, 30), (0, 50), (0, 7), (0, 50), (0, 7)], [], [], []), [], [some (.ref 244), some (.retAddr 0), some (.retAddr 1), some (.retAddr 2), some (.retAddr 3), some (.int 30), some (.retAddr 4)], [(0, 1, .int 0), (0, 2, .int 0), (0, 3, .int 0), (0, 4, .int 0), (0, 6, .int 0)], [(false, .int 9876), (true, .retAddr 4)], [])
noncomputable def ax_c_251_26 : ax_ct := (124, (5, [(0, 31), (0, 49), (0, 7), (0, 49), (0, 7)], [], [], []), [], [some (.ref 244), some (.retAddr 0), some (.retAddr 1), some (.retAddr 2), some (.retAddr 3), some (.int 31), some (.retAddr 4)], [(0, 1, .int 0), (0, 2, .int 0), (0, 3, .int 0), (0, 4, .int 0), (0, 6, .int 0)], [(false, .int 9876), (true, .retAddr 4)], [])
noncomputable def ax_c_251_27 : ax_ct := (124, (5, [(0, 36), (0, 48), (0, 7), (0, 48), (0, 7)], [], [], []), [], [some (.ref 244), some (.retAddr 0), some (.retAddr 1), some (.retAddr 2), some (.retAddr 3), some (.int 32), some (.retAddr 4)], [(0, 1, .int 0), (0, 2, .int 0), (0, 3, .int 0), (0, 4, .int 0), (0, 6, .int 0)], [(false, .int 9876), (true, .retAddr 4)], [])
noncomputable def ax_c_251_28 : ax_ct := (124, (5, [(0, 36), (0, 47), (0, 7), (0, 47), (0, 7)], [], [], []), [], [some (.ref 244), some (.retAddr 0), some (.retAddr 1), some (.retAddr 2), some (.retAddr 3), some (.int 33), some (.retAddr 4)], [(0, 1, .int 0), (0, 2, .int 0), (0, 3, .int 0), (0, 4, .int 0), (0, 6, .int 0)], [(false, .int 9876), (true, .retAddr 4)], [])
noncomputable def ax_c_251_29 : ax_ct := (124, (5, [(0, 36), (0, 46), (0, 7), (0, 46), (0, 7)], [], [], []), [], [some (.ref 244), some (.retAddr 0), some (.retAddr 1), some (.retAddr 2), some (.retAddr 3), some (.int 34), some (.retAddr 4)], [(0, 1, .int 0), (0, 2, .int 0), (0, 3, .int 0), (0, 4, .int 0), (0, 6, .int 0)], [(false, .int 9876), (true, .retAddr 4)], [])
noncomputable def ax_c_251_30 : ax_ct := (124, (5, [(0, 36), (0, 45), (0, 7), (0, 45), (0, 7)], [], [], []), [], [some (.ref 244), some (.retAddr 0), some (.retAddr 1), some (.retAddr 2), some (.retAddr 3), some (.int 35), some (.retAddr 4)], [(0, 1, .int 0), (0, 2, .int 0), (0, 3, .int 0), (0, 4, .int 0), (0, 6, .int 0)], [(false, .int 9876), (true, .retAddr 4)], [])
noncomputable def ax_c_251_31 : ax_ct := (124, (5, [(0, 36), (0, 44), (0, 7), (0, 44), (0, 7)], [], [], []), [], [some (.ref 244), some (.retAddr 0), some (.retAddr 1), some (.retAddr 2), some (.retAddr 3), some (.int 36), some (.retAddr 4)], [(0, 1, .int 0), (0, 2, .int 0), (0, 3, .int 0), (0, 4, .int 0), (0, 6, .int 0)], [(false, .int 9876), (true, .retAddr 4)], [])
noncomputable def ax_c_251_32 : ax_ct := (124, (5, [(0, 57), (0, 43), (0, 7), (0, 43), (0, 7)], [], [], []), [], [some (.ref 244), some (.retAddr 0), some (.retAddr 1), some (.retAddr 2), some (.retAddr 3), some (.int 37), some (.retAddr 4)], [(0, 1, .int 0), (0, 2, .int 0), (0, 3, .int 0), (0, 4, .int 0), (0, 6, .int 0)], [(false, .int 9876), (true, .retAddr 4)], [])
noncomputable def ax_c_251_33 : ax_ct := (124, (5, [(0, 57), (0, 42), (0, 7), (0, 42), (0, 7)], [], [], []), [], [some (.ref 244), some (.retAddr 0), some (.retAddr 1), some (.retAddr 2), some (.retAddr 3), some (.int 38), some (.retAddr 4)], [(0, 1, .int 0), (0, 2, .int 0), (0, 3, .int 0), (0, 4, .int 0), (0, 6, .int 0)], [(false, .int 9876), (true, .retAddr 4)], [])
noncomputable def ax_c_251_34 : ax_ct := (124, (5, [(0, 57), (0, 41), (0, 7), (0, 41), (0, 7)], [], [], []), [], [some (.ref 244), some (.retAddr 0), some (.retAddr 1), some (.retAddr 2), some (.retAddr 3), some (.int 39), some (.retAddr 4)], [(0, 1, .int 0), (0, 2, .int 0), (0, 3, .int 0), (0, 4, .int 0), (0, 6, .int 0)], [(false, .int 9876), (true, .retAddr 4)], [])
noncomputable def ax_c_251_35 : ax_ct := (124, (5, [(0, 4), (0, 76), (0, 7), (0, 76), (0, 7)], [], [], []), [], [some (.ref 244), some (.retAddr 0), some (.retAddr 1), some (.retAddr 2), some (.retAddr 3), some (.int 4), some (.retAddr 4)], [(0, 1, .int 0), (0, 2, .int 0), (0, 3, .int 0), (0, 4, .int 0), (0, 6, .int 0)], [(false, .int 9876), (true, .retAddr 4)], [])
noncomputable def ax_c_251_36 : ax_ct := (124, (5, [(0, 57), (0, 40), (0, 7), (0, 40), (0, 7)], [], [], []), [], [some (.ref 244), some (.retAddr 0), some (.retAddr 1), some (.retAddr 2), some (.retAddr 3), some (.int 40), some (.retAddr 4)], [(0, 1, .int 0), (0, 2, .int 0), (0, 3, .int 0), (0, 4, .int 0), (0, 6, .int 0)], [(false, .int 9876), (true, .retAddr 4)], [])
noncomputable def ax_c_251_37 : ax_ct := (124, (5, [(0, 57), (0, 39), (0, 7), (0, 39), (0, 7)], [], [], []), [], [some (.ref 244), some (.retAddr 0), some (.retAddr 1), some (.retAddr 2), some (.retAddr 3), some (.int 41), some (.retAddr 4)], [(0, 1, .int 0), (0, 2, .int 0), (0, 3, .int 0), (0, 4, .int 0), (0, 6, .int 0)], [(false, .int 9876), (true, .retAddr 4)], [])
noncomputable def ax_c_251_38 : ax_ct := (124, (5, [(0, 57), (0, 38), (0, 7), (0, 38), (0, 7)], [], [], []), [], [some (.ref 244), some (.retAddr 0), some (.retAddr 1), some (.retAddr 2), some (.retAddr 3), some (.int 42), some (.retAddr 4)], [(0, 1, .int 0), (0, 2, .int 0), (0, 3, .int 0), (0, 4, .int 0), (0, 6, .int 0)], [(false, .int 9876), (true, .retAddr 4)], [])
noncomputable def ax_c_251_39 : ax_ct := (124, (5, [(0, 57), (0, 37), (0, 7), (0, 37), (0, 7)], [], [], []), [], [some (.ref 244), some (.retAddr 0), some (.retAddr 1), some (.retAddr 2), some (.retAddr 3), some (.int 43), some (.retAddr 4)], [(0, 1, .int 0), (0, 2, .int 0), (0, 3, .int 0), (0, 4, .int 0), (0, 6, .int 0)], [(false, .int 9876), (true, .retAddr 4)], [])
noncomputable def ax_c_251_40 : ax_ct := (124, (5, [(0, 57), (0, 36), (0, 7), (0, 36), (0, 7)], [], [], []), [], [some (.ref 244), some (.retAddr 0), some (.retAddr 1), some (.retAddr 2), some (.retAddr 3), some (.int 44), some (.retAddr 4)], [(0, 1, .int 0), (0, 2, .int 0), (0, 3, .int 0), (0, 4, .int 0), (0, 6, .int 0)], [(false, .int 9876), (true, .retAddr 4)], [])
noncomputable def ax_c_251_41 : ax_ct := (124, (5, [(0, 57), (0, 35), (0, 7), (0, 35), (0, 7)], [], [], []), [], [some (.ref 244), some (.retAddr 0), some (.retAddr 1), some (.retAddr 2), some (.retAddr 3), some (.int 45), some (.retAddr 4)], [(0, 1, .int 0), (0, 2, .int 0), (0, 3, .int 0), (0, 4, .int 0), (0, 6, .int 0)], [(false, .int 9876), (true, .retAddr 4)], [])
noncomputable def ax_c_251_42 : ax_ct := (124, (5, [(0, 57), (0, 34), (0, 7), (0, 34), (0, 7)], [], [], []), [], [some (.ref 244), some (.retAddr 0), some (.retAddr 1), some (.retAddr 2), some (.retAddr 3), some (.int 46), some (.retAddr 4)], [(0, 1, .int 0), (0, 2, .int 0), (0, 3, .int 0), (0, 4, .int 0), (0, 6, .int 0)], [(false, .int 9876), (true, .retAddr 4)], [])
noncomputable def ax_c_251_43 : ax_ct := (124, (5, [(0, 57), (0, 33), (0, 7), (0, 33), (0, 7)], [], [], []), [], [some (.ref 244), some (.retAddr 0), some (.retAddr 1), some (.retAddr 2), some (.retAddr 3), some (.int 47), some (.retAddr 4)], [(0, 1, .int 0), (0, 2, .int 0), (0, 3, .int 0), (0, 4, .int 0), (0, 6, .int 0)], [(false, .int 9876), (true, .retAddr 4)], [])
noncomputable def ax_c_251_44 : ax_ct := (124, (5, [(0, 57), (0, 32), (0, 7), (0, 32), (0, 7)], [], [], []), [], [some (.ref 244), some (.retAddr 0), some (.retAddr 1), some (.retAddr 2), some (.retAddr 3), some (.int 48), some (.retAddr 4)], [(0, 1, .int 0), (0, 2, .int 0), (0, 3, .int 0), (0, 4, .int 0), (0, 6, .int 0)], [(false, .int 9876), (true, .retAddr 4)], [])
noncomputable def ax_c_251_45 : ax_ct := (124, (5, [(0, 57), (0, 31), (0, 7), (0, 31), (0, 7)], [], [], []), [], [some (.ref 244), some (.retAddr 0), some (.retAddr 1), some (.retAddr 2), some (.retAddr 3), some (.int 49), some (.retAddr 4)], [(0, 1, .int 0), (0, 2, .int 0), (0, 3, .int 0), (0, 4, .int 0), (0, 6, .int 0)], [(false, .int 9876), (true, .retAddr 4)], [])
noncomputable def ax_c_251_46 : ax_ct := (124, (5, [(0, 5), (0, 75), (0, 7), (0, 75), (0, 7)], [], [], []), [], [some (.ref 244), some (.retAddr 0), some (.retAddr 1), some (.retAddr 2), some (.retAddr 3), some (.int 5), some (.retAddr 4)], [(0, 1, .int 0), (0, 2, .int 0), (0, 3, .int 0), (0, 4, .int 0), (0, 6, .int 0)], [(false, .int 9876), (true, .retAddr 4)], [])
noncomputable def ax_c_251_47 : ax_ct := (124, (5, [(0, 57), (0, 30), (0, 7), (0, 30), (0, 7)], [], [], []), [], [some (.ref 244), some (.retAddr 0), some (.retAddr 1), some (.retAddr 2), some (.retAddr 3), some (.int 50), some (.retAddr 4)], [(0, 1, .int 0), (0, 2, .int 0), (0, 3, .int 0), (0, 4, .int 0), (0, 6, .int 0)], [(false, .int 9876), (true, .retAddr 4)], [])
noncomputable def ax_c_251_48 : ax_ct := (124, (5, [(0, 57), (0, 29), (0, 7), (0, 29), (0, 7)], [], [], []), [], [some (.ref 244), some (.retAddr 0), some (.retAddr 1), some (.retAddr 2), some (.retAddr 3), some (.int 51), some (.retAddr 4)], [(0, 1, .int 0), (0, 2, .int 0), (0, 3, .int 0), (0, 4, .int 0), (0, 6, .int 0)], [(false, .int 9876), (true, .retAddr 4)], [])
noncomputable def ax_c_251_49 : ax_ct := (124, (5, [(0, 57), (0, 28), (0, 7), (0, 28), (0, 7)], [], [], []), [], [some (.ref 244), some (.retAddr 0), some (.retAddr 1), some (.retAddr 2), some (.retAddr 3), some (.int 52), some (.retAddr 4)], [(0, 1, .int 0), (0, 2, .int 0), (0, 3, .int 0), (0, 4, .int 0), (0, 6, .int 0)], [(false, .int 9876), (true, .retAddr 4)], [])
noncomputable def ax_c_251_50 : ax_ct := (124, (5, [(0, 57), (0, 27), (0, 7), (0, 27), (0, 7)], [], [], []), [], [some (.ref 244), some (.retAddr 0), some (.retAddr 1), some (.retAddr 2), some (.retAddr 3), some (.int 53), some (.retAddr 4)], [(0, 1, .int 0), (0, 2, .int 0), (0, 3, .int 0), (0, 4, .int 0), (0, 6, .int 0)], [(false, .int 9876), (true, .retAddr 4)], [])
noncomputable def ax_c_251_51 : ax_ct := (124, (5, [(0, 57), (0, 26), (0, 7), (0, 26), (0, 7)], [], [], []), [], [some (.ref 244), some (.retAddr 0), some (.retAddr 1), some (.retAddr 2), some (.retAddr 3), some (.int 54), some (.retAddr 4)], [(0, 1, .int 0), (0, 2, .int 0), (0, 3, .int 0), (0, 4, .int 0), (0, 6, .int 0)], [(false, .int 9876), (true, .retAddr 4)], [])
noncomputable def ax_c_251_52 : ax_ct := (124, (5, [(0, 57), (0, 25), (0, 7), (0, 25), (0, 7)], [], [], []), [], [some (.ref 244), some (.retAddr 0), some (.retAddr 1), some (.retAddr 2), some (.retAddr 3), some (.int 55), some (.retAddr 4)], [(0, 1, .int 0), (0, 2, .int 0), (0, 3, .int 0), (0, 4, .int 0), (0, 6, .int 0)], [(false, .int 9876), (true, .retAddr 4)], [])
noncomputable def ax_c_251_53 : ax_ct := (124, (5, [(0, 57), (0, 24), (0, 7), (0, 24), (0, 7)], [], [], []), [], [some (.ref 244), some (.retAddr 0), some (.retAddr 1), some (.retAddr 2), some (.retAddr 3), some (.int 56), some (.retAddr 4)], [(0, 1, .int 0), (0, 2, .int 0), (0, 3, .int 0), (0, 4, .int 0), (0, 6, .int 0)], [(false, .int 9876), (true, .retAddr 4)], [])
noncomputable def ax_c_251_54 : ax_ct := (124, (5, [(0, 57), (0, 23), (0, 7), (0, 23), (0, 7)], [], [], []), [], [some (.ref 244), some (.retAddr 0), some (.retAddr 1), some (.retAddr 2), some (.retAddr 3), some (.int 57), some (.retAddr 4)], [(0, 1, .int 0), (0, 2, .int 0), (0, 3, .int 0), (0, 4, .int 0), (0, 6, .int 0)], [(false, .int 9876), (true, .retAddr 4)], [])
noncomputable def ax_c_251_55 : ax_ct := (124, (5, [(0, 60), (0, 22), (0, 7), (0, 22), (0, 7)], [], [], []), [], [some (.ref 244), some (.retAddr 0), some (.retAddr 1), some (.retAddr 2), some (.retAddr 3), some (.int 58), some (.retAddr 4)], [(0, 1, .int 0), (0, 2, .int 0), (0, 3, .int 0), (0, 4, .int 0), (0, 6, .int 0)], [(false, .int 9876), (true, .retAddr 4)], [])
noncomputable def ax_c_251_56 : ax_ct := (124, (5, [(0, 60), (0, 21), (0, 7), (0, 21), (0, 7)], [], [], []), [], [some (.ref 244), some (.retAddr 0), some (.retAddr 1), some (.retAddr 2), some (.retAddr 3), some (.int 59), some (.retAddr 4)], [(0, 1, .int 0), (0, 2, .int 0), (0, 3, .int 0), (0, 4, .int 0), (0, 6, .int 0)], [(false, .int 9876), (true, .retAddr 4)], [])
noncomputable def ax_c_251_57 : ax_ct := (124, (5, [(0, 6), (0, 74), (0, 7), (0, 74), (0, 7)], [], [], []), [], [some (.ref 244), some (.retAddr 0), some (.retAddr 1), some (.retAddr 2), some (.retAddr 3), some (.int 6), some (.retAddr 4)], [(0, 1, .int 0), (0, 2, .int 0), (0, 3, .int 0), (0, 4, .int 0), (0, 6, .int 0)], [(false, .int 9876), (true, .retAddr 4)], [])
noncomputable def ax_c_251_58 : ax_ct := (124, (5, [(0, 60), (0, 20), (0, 7), (0, 20), (0, 7)], [], [], []), [], [some (.ref 244), some (.retAddr 0), some (.retAddr 1), some (.retAddr 2), some (.retAddr 3), some (.int 60), some (.retAddr 4)], [(0, 1, .int 0), (0, 2, .int 0), (0, 3, .int 0), (0, 4, .int 0), (0, 6, .int 0)], [(false, .int 9876), (true, .retAddr 4)], [])
noncomputable def ax_c_251_59 : ax_ct := (124, (5, [(0, 79), (0, 19), (0, 7), (0, 19), (0, 7)], [], [], []), [], [some (.ref 244), some (.retAddr 0), some (.retAddr 1), some (.retAddr 2), some (.retAddr 3), some (.int 61), some (.retAddr 4)], [(0, 1, .int 0), (0, 2, .int 0), (0, 3, .int 0), (0, 4, .int 0), (0, 6, .int 0)], [(false, .int 9876), (true, .retAddr 4)], [])
noncomputable def ax_c_251_60 : ax_ct := (124, (5, [(0, 79), (0, 18), (0, 7), (0, 18), (0, 7)], [], [], []), [], [some (.ref 244), some (.retAddr 0), some (.retAddr 1), some (.retAddr 2), some (.retAddr 3), some (.int 62), some (.retAddr 4)], [(0, 1, .int 0), (0, 2, .int 0), (0, 3, .int 0), (0, 4, .int 0), (0, 6, .int 0)], [(false, .int 9876), (true, .retAddr 4)], [])
noncomputable def ax_c_251_61 : ax_ct := (124, (5, [(0, 79), (0, 17), (0, 7), (0, 17), (0, 7)], [], [], []), [], [some (.ref 244), some (.retAddr 0), some (.retAddr 1), some (.retAddr 2), some (.retAddr 3), some (.int 63), some (.retAddr 4)], [(0, 1, .int 0), (0, 2, .int 0), (0, 3, .int 0), (0, 4, .int 0), (0, 6, .int 0)], [(false, .int 9876), (true, .retAddr 4)], [])
noncomputable def ax_c_251_62 : ax_ct := (124, (5, [(0, 79), (0, 16), (0, 7), (0, 16), (0, 7)], [], [], []), [], [some (.ref 244), some (.retAddr 0), some (.retAddr 1), some (.retAddr 2), some (.retAddr 3), some (.int 64), some (.retAddr 4)], [(0, 1, .int 0), (0, 2, .int 0), (0, 3, .int 0), (0, 4, .int 0), (0, 6, .int 0)], [(false, .int 9876), (true, .retAddr 4)], [])
noncomputable def ax_c_251_63 : ax_ct := (124, (5, [(0, 79), (0, 15), (0, 7), (0, 15), (0, 7)], [], [], []), [], [some (.ref 244), some (.retAddr 0), some (.retAddr 1), some (.retAddr 2), some (.retAddr 3), some (.int 65), some (.retAddr 4)], [(0, 1, .int 0), (0, 2, .int 0), (0, 3, .int 0), (0, 4, .int 0), (0, 6, .int 0)], [(false, .int 9876), (true, .retAddr 4)], [])
noncomputable def ax_c_251_64 : ax_ct := (124, (5, [(0, 79), (0, 14), (0, 7), (0, 14), (0, 7)], [], [], []), [], [some (.ref 244), some (.retAddr 0), some (.retAddr 1), some (.retAddr 2), some (.retAddr 3), some (.int 66), some (.retAddr 4)], [(0, 1, .int 0), (0, 2, .int 0), (0, 3, .int 0), (0, 4, .int 0), (0, 6, .int 0)], [(false, .int 9876), (true, .retAddr 4)], [])
noncomputable def ax_c_251_65 : ax_ct := (124, (5, [(0, 79), (0, 13), (0, 7), (0, 13), (0, 7)], [], [], []), [], [some (.ref 244), some (.retAddr 0), some (.retAddr 1), some (.retAddr 2), some (.retAddr 3), some (.int 67), some (.retAddr 4)], [(0, 1, .int 0), (0, 2, .int 0), (0, 3, .int 0), (0, 4, .int 0), (0, 6, .int 0)], [(false, .int 9876), (true, .retAddr 4)], [])
noncomputable def ax_c_251_66 : ax_ct := (124, (5, [(0, 79), (0, 12), (0, 7), (0, 12), (0, 7)], [], [], []), [], [some (.ref 244), some (.retAddr 0), some (.retAddr 1), some (.retAddr 2), some (.retAddr 3), some (.int 68), some (.retAddr 4)], [(0, 1, .int 0), (0, 2, .int 0), (0, 3, .int 0), (0, 4, .int 0), (0, 6, .int 0)], [(false, .int 9876), (true, .retAddr 4)], [])
noncomputable def ax_c_251_67 : ax_ct := (124, (5, [(0, 79), (0, 11), (0, 7), (0, 11), (0, 7)], [], [], []), [], [some (.ref 244), some (.retAddr 0), some (.retAddr 1), some (.retAddr 2), some (.retAddr 3), some (.int 69), some (.retAddr 4)], [(0, 1, .int 0), (0, 2, .int 0), (0, 3, .int 0), (0, 4, .int 0), (0, 6, .int 0)], [(false, .int 9876), (true, .retAddr 4)], [])
noncomputable def ax_c_251_68 : ax_ct := (124, (5, [(0, 7), (0, 73), (0, 7), (0, 73), (0, 7)], [], [], []), [], [some (.ref 244), some (.retAddr 0), some (.retAddr 1), some (.retAddr 2), some (.retAddr 3), some (.int 7), some (.retAddr 4)], [(0, 1, .int 0), (0, 2, .int 0), (0, 3, .int 0), (0, 4, .int 0), (0, 6, .int 0)], [(false, .int 9876), (true, .retAddr 4)], [])
noncomputable def ax_c_251_69 : ax_ct := (124, (5, [(0, 79), (0, 10), (0, 7), (0, 10), (0, 7)], [], [], []), [], [some (.ref 244), some (.retAddr 0), some (.retAddr 1), some (.retAddr 2), some (.retAddr 3), some (.int 70), some (.retAddr 4)], [(0, 1, .int 0), (0, 2, .int 0), (0, 3, .int 0), (0, 4, .int 0), (0, 6, .int 0)], [(false, .int 9876), (true, .retAddr 4)], [])
noncomputable def ax_c_251_70 : ax_ct := (124, (5, [(0, 79), (0, 9), (0, 7), (0, 9), (0, 7)], [], [], []), [], [some (.ref 244), some (.retAddr 0), some (.retAddr 1), some (.retAddr 2), some (.retAddr 3), some (.int 71), some (.retAddr 4)], [(0, 1, .int 0), (0, 2, .int 0), (0, 3, .int 0), (0, 4, .int 0), (0, 6, .int 0)], [(false, .int 9876), (true, .retAddr 4)], [])
noncomputable def ax_c_251_71 : ax_ct := (124, (5, [(0, 79), (0, 8), (0, 7), (0, 8), (0, 7)], [], [], []), [], [some (.ref 244), some (.retAddr 0), some (.retAddr 1), some (.retAddr 2), some (.retAddr 3), some (.int 72), some (.retAddr 4)], [(0, 1, .int 0), (0, 2, .int 0), (0, 3, .int 0), (0, 4, .int 0), (0, 6, .int 0)], [(false, .int 9876), (true, .retAddr 4)], [])
noncomputable def ax_c_251_72 : ax_ct := (124, (5, [(0, 79), (0, 7), (0, 7), (0, 7), (0, 7)], [], [], []), [], [some (.ref 244), some (.retAddr 0), some (.retAddr 1), some (.retAddr 2), some (.retAddr 3), some (.int 73), some (.retAddr 4)], [(0, 1, .int 0), (0, 2, .int 0), (0, 3, .int 0), (0, 4, .int 0), (0, 6, .int 0)], [(false, .int 9876), (true, .retAddr 4)], [])
noncomputable def ax_c_251_73 : ax_ct := (124, (5, [(0, 79), (0, 6), (0, 7), (0, 6), (0, 7)], [], [], []), [], [some (.ref 244), some (.retAddr 0), some (.retAddr 1), some (.retAddr 2), some (.retAddr 3), some (.int 74), some (.retAddr 4)], [(0, 1, .int 0), (0, 2, .int 0), (0, 3, .int 0), (0, 4, .int 0), (0, 6, .int 0)], [(false, .int 9876), (true, .retAddr 4)], [])
noncomputable def ax_c_251_74 : ax_ct := (124, (5, [(0, 79), (0, 5), (0, 7), (0, 5), (0, 7)], [], [], []), [], [some (.ref 244), some (.retAddr 0), some (.retAddr 1), some (.retAddr 2), some (.retAddr 3), some (.int 75), some (.retAddr 4)], [(0, 1, .int 0), (0, 2, .int 0), (0, 3, .int 0), (0, 4, .int 0), (0, 6, .int 0)], [(false, .int 9876), (true, .retAddr 4)], [])
noncomputable def ax_c_251_75 : ax_ct := (124, (5, [(0, 79), (0, 4), (0, 7), (0, 4), (0, 7)], [], [], []), [], [some (.ref 244), some (.retAddr 0), some (.retAddr 1), some (.retAddr 2), some (.retAddr 3), some (.int 76), some (.retAddr 4)], [(0, 1, .int 0), (0, 2, .int 0), (0, 3, .int 0), (0, 4, .int 0), (0, 6, .int 0)], [(false, .int 9876), (true, .retAddr 4)], [])
noncomputable def ax_c_251_76 : ax_ct := (124, (5, [(0, 79), (0, 3), (0, 7), (0, 3), (0, 7)], [], [], []), [], [some (.ref 244), some (.retAddr 0), some (.retAddr 1), some (.retAddr 2), some (.retAddr 3), some (.int 77), some (.retAddr 4)], [(0, 1, .int 0), (0, 2, .int 0), (0, 3, .int 0), (0, 4, .int 0), (0, 6, .int 0)], [(false, .int 9876), (true, .retAddr 4)], [])
noncomputable def ax_c_251_77 : ax_ct := (124, (5, [(0, 79), (0, 2), (0, 7), (0, 2), (0, 7)], [], [], []), [], [some (.ref 244), some (.retAddr 0), some (.retAddr 1), some (.retAddr 2), some (.retAddr 3), some (.int 78), some (.retAddr 4)], [(0, 1, .int 0), (0, 2, .int 0), (0, 3, .int 0), (0, 4, .int 0), (0, 6, .int 0)], [(false, .int 9876), (true, .retAddr 4)], [])
noncomputable def ax_c_251_78 : ax_ct := (124, (5, [(0, 79), (0, 1), (0, 7), (0, 1), (0, 7)], [], [], []), [], [some (.ref 244), some (.retAddr 0), some (.retAddr 1), some (.retAddr 2), some (.retAddr 3), some (.int 79), some (.retAddr 4)], [(0, 1, .int 0), (0, 2, .int 0), (0, 3, .int 0), (0, 4, .int 0), (0, 6, .int 0)], [(false, .int 9876), (true, .retAddr 4)], [])
noncomputable def ax_c_251_79 : ax_ct := (124, (5, [(0, 8), (0, 72), (0, 7), (0, 72), (0, 7)], [], [], []), [], [some (.ref 244), some (.retAddr 0), some (.retAddr 1), some (.retAddr 2), some (.retAddr 3), some (.int 8), some (.retAddr 4)], [(0, 1, .int 0), (0, 2, .int 0), (0, 3, .int 0), (0, 4, .int 0), (0, 6, .int 0)], [(false, .int 9876), (true, .retAddr 4)], [])
noncomputable def ax_c_251_80 : ax_ct := (124, (5, [(0, 80), (0, 0), (0, 7), (0, 0), (0, 7)], [], [], []), [], [some (.ref 244), some (.retAddr 0), some (.retAddr 1), some (.retAddr 2), some (.retAddr 3), some (.int 80), some (.retAddr 4)], [(0, 1, .int 0), (0, 2, .int 0), (0, 3, .int 0), (0, 4, .int 0), (0, 6, .int 0)], [(false, .int 9876), (true, .retAddr 4)], [])
noncomputable def ax_c_251_81 : ax_ct := (124, (5, [(0, 9), (0, 71), (0, 7), (0, 71), (0, 7)], [], [], []), [], [some (.ref 244), some (.retAddr 0), some (.retAddr 1), some (.retAddr 2), some (.retAddr 3), some (.int 9), some (.retAddr 4)], [(0, 1, .int 0), (0, 2, .int 0), (0, 3, .int 0), (0, 4, .int 0), (0, 6, .int 0)], [(false, .int 9876), (true, .retAddr 4)], [])
noncomputable def ax_c_251_82 : ax_ct := (161, (5, [(0, 0), (0, 80), (0, 7), (0, 80), (0, 7)], [], [], []), [], [some (.ref 244), some (.retAddr 0), some (.retAddr 1), some (.retAddr 2), some (.retAddr 3), some (.int 0), some (.retAddr 4)], [(0, 1, .int 0), (0, 2, .int 0), (0, 3, .int 0), (0, 4, .int 0), (0, 6, .int 0)], [(false, .int 9839), (true, .retAddr 4)], [])
noncomputable def ax_c_251_83 : ax_ct := (161, (5, [(0, 1), (0, 79), (0, 7), (0, 79), (0, 7)], [], [], []), [], [some (.ref 244), some (.retAddr 0), some (.retAddr 1), some (.retAddr 2), some (.retAddr 3), some (.int 1), some (.retAddr 4)], [(0, 1, .int 0), (0, 2, .int 0), (0, 3, .int 0), (0, 4, .int 0), (0, 6, .int 0)], [(false, .int 9839), (true, .retAddr 4)], [])
noncomputable def ax_c_251_84 : ax_ct := (161, (5, [(0, 11), (0, 70), (0, 7), (0, 70), (0, 7)], [], [], []), [], [some (.ref 244), some (.retAddr 0), some (.retAddr 1), some (.retAddr 2), some (.retAddr 3), some (.int 10), some (.retAddr 4)], [(0, 1, .int 0), (0, 2, .int 0), (0, 3, .int 0), (0, 4, .int 0), (0, 6, .int 0)], [(false, .int 9839), (true, .retAddr 4)], [])
noncomputable def ax_c_251_85 : ax_ct := (161, (5, [(0, 11), (0, 69), (0, 7), (0, 69), (0, 7)], [], [], []), [], [some (.ref 244), some (.retAddr 0), some (.retAddr 1), some (.retAddr 2), some (.retAddr 3), some (.int 11), some (.retAddr 4)], [(0, 1, .int 0), (0, 2, .int 0), (0, 3, .int 0), (0, 4, .int 0), (0, 6, .int 0)], [(false, .int 9839), (true, .retAddr 4)], [])
noncomputable def ax_c_251_86 : ax_ct := (161, (5, [(0, 12), (0, 68), (0, 7), (0, 68), (0, 7)], [], [], []), [], [some (.ref 244), some (.retAddr 0), some (.retAddr 1), some (.retAddr 2), some (.retAddr 3), some (.int 12), some (.retAddr 4)], [(0, 1, .int 0), (0, 2, .int 0), (0, 3, .int 0), (0, 4, .int 0), (0, 6, .int 0)], [(false, .int 9839), (true, .retAddr 4)], [])
noncomputable def ax_c_251_87 : ax_ct := (161, (5, [(0, 13), (0, 67), (0, 7), (0, 67), (0, 7)], [], [], []), [], [some (.ref 244), some (.retAddr 0), some (.retAddr 1), some (.retAddr 2), some (.retAddr 3), some (.int 13), some (.retAddr 4)], [(0, 1, .int 0), (0, 2, .int 0), (0, 3, .int 0), (0, 4, .int 0), (0, 6, .int 0)], [(false, .int 9839), (true, .retAddr 4)], [])
noncomputable def ax_c_251_88 : ax_ct := (161, (5, [(0, 15), (0, 66), (0, 7), (0, 66), (0, 7)], [], [], []), [], [some (.ref 244), some (.retAddr 0), some (.retAddr 1), some (.retAddr 2), some (.retAddr 3), some (.int 14), some (.retAddr 4)], [(0, 1, .int 0), (0, 2, .int 0), (0, 3, .int 0), (0, 4, .int 0), (0, 6, .int 0)], [(false, .int 9839), (true, .retAddr 4)], [])
noncomputable def ax_c_251_89 : ax_ct := (161, (5, [(0, 15), (0, 65), (0, 7), (0, 65), (0, 7)], [], [], []), [], [some (.ref 244), some (.retAddr 0), some (.retAddr 1), some (.retAddr 2), some (.retAddr 3), some (.int 15), some (.retAddr 4)], [(0, 1, .int 0), (0, 2, .int 0), (0, 3, .int 0), (0, 4, .int 0), (0, 6, .int 0)], [(false, .int 9839), (true, .retAddr 4)], [])
noncomputable def ax_c_251_90 : ax_ct := (161, (5, [(0, 20), (0, 64), (0, 7), (0, 64), (0, 7)], [], [], []), [], [some (.ref 244), some (.retAddr 0), some (.retAddr 1), some (.retAddr 2), some (.retAddr 3), some (.int 16), some (.retAddr 4)], [(0, 1, .int 0), (0, 2, .int 0), (0, 3, .int 0), (0, 4, .int 0), (0, 6, .int 0)], [(false, .int 9839), (true, .retAddr 4)], [])
noncomputable def ax_c_251_91 : ax_ct := (161, (5, [(0, 20), (0, 63), (0, 7), (0, 63), (0, 7)], [], [], []), [], [some (.ref 244), some (.retAddr 0), some (.retAddr 1), some (.retAddr 2), some (.retAddr 3), some (.int 17), some (.retAddr 4)], [(0, 1, .int 0), (0, 2, .int 0), (0, 3, .int 0), (0, 4, .int 0), (0, 6, .int 0)], [(false, .int 9839), (true, .retAddr 4)], [])
noncomputable def ax_c_251_92 : ax_ct := (161, (5, [(0, 20), (0, 62), (0, 7), (0, 62), (0, 7)], [], [], []), [], [some (.ref 244), some (.retAddr 0), some (.retAddr 1), some (.retAddr 2), some (.retAddr 3), some (.int 18), some (.retAddr 4)], [(0, 1, .int 0), (0, 2, .int 0), (0, 3, .int 0), (0, 4, .int 0), (0, 6, .int 0)], [(false, .int 9839), (true, .retAddr 4)], [])
noncomputable def ax_c_251_93 : ax_ct := (161, (5, [(0, 20), (0, 61), (0, 7), (0, 61), (0, 7)], [], [], []), [], [some (.ref 244), some (.retAddr 0), some (.retAddr 1), some (.retAddr 2), some (.retAddr 3), some (.int 19), some (.retAddr 4)], [(0, 1, .int 0), (0, 2, .int 0), (0, 3, .int 0), (0, 4, .int 0), (0, 6, .int 0)], [(false, .int 9839), (true, .retAddr 4)], [])
noncomputable def ax_c_251_94 : ax_ct := (161, (5, [(0, 2), (0, 78), (0, 7), (0, 78), (0, 7)], [], [], []), [], [some (.ref 244), some (.retAddr 0), some (.retAddr 1), some (.retAddr 2), some (.retAddr 3), some (.int 2), some (.retAddr 4)], [(0, 1, .int 0), (0, 2, .int 0), (0, 3, .int 0), (0, 4, .int 0), (0, 6, .int 0)], [(false, .int 9839), (true, .retAddr 4)], [])
noncomputable def ax_c_251_95 : ax_ct := (161, (5, [(0, 20), (0, 60), (0, 7), (0, 60), (0, 7)], [], [], []), [], [some (.ref 244), some (.retAddr 0), some (.retAddr 1), some (.retAddr 2), some (.retAddr 3), some (.int 20), some (.retAddr 4)], [(0, 1, .int 0), (0, 2, .int 0), (0, 3, .int 0), (0, 4, .int 0), (0, 6, .int 0)], [(false, .int 9839), (true, .retAddr 4)], [])
noncomputable def ax_c_251_96 : ax_ct := (161, (5, [(0, 23), (0, 59), (0, 7), (0, 59), (0, 7)], [], [], []), [], [some (.ref 244), some (.retAddr 0), some (.retAddr 1), some (.retAddr 2), some (.retAddr 3), some (.int 21), some (.retAddr 4)], [(0, 1, .int 0), (0, 2, .int 0), (0, 3, .int 0), (0, 4, .int 0), (0, 6, .int 0)], [(false, .int 9839), (true, .retAddr 4)], [])
noncomputable def ax_c_251_97 : ax_ct := (161, (5, [(0, 23), (0, 58), (0, 7), (0, 58), (0, 7)], [], [], []), [], [some (.ref 244), some (.retAddr 0), some (.retAddr 1), some (.retAddr 2), some (.retAddr 3), some (.int 22), some (.retAddr 4)], [(0, 1, .int 0), (0, 2, .int 0), (0, 3, .int 0), (0, 4, .int 0), (0, 6, .int 0)], [(false, .int 9839), (true, .retAddr 4)], [])
noncomputable def ax_c_251_98 : ax_ct := (161, (5, [(0, 23), (0, 57), (0, 7), (0, 57), (0, 7)], [], [], []), [], [some (.ref 244), some (.retAddr 0), some (.retAddr 1), some (.retAddr 2), some (.retAddr 3), some (.int 23), some (.retAddr 4)], [(0, 1, .int 0), (0, 2, .int 0), (0, 3, .int 0), (0, 4, .int 0), (0, 6, .int 0)], [(false, .int 9839), (true, .retAddr 4)], [])
noncomputable def ax_c_251_99 : ax_ct := (161, (5, [(0, 24), (0, 56), (0, 7), (0, 56), (0, 7)], [], [], []), [], [some (.ref 244), some (.retAddr 0), some (.retAddr 1), some (.retAddr 2), some (.retAddr 3), some (.int 24), some (.retAddr 4)], [(0, 1, .int 0), (0, 2, .int 0), (0, 3, .int 0), (0, 4, .int 0), (0, 6, .int 0)], [(false, .int 9839), (true, .retAddr 4)], [])
noncomputable def ax_c_251_100 : ax_ct := (161, (5, [(0, 29), (0, 55), (0, 7), (0, 55), (0, 7)], [], [], []), [], [some (.ref 244), some (.retAddr 0), some (.retAddr 1), some (.retAddr 2), some (.retAddr 3), some (.int 25), some (.retAddr 4)], [(0, 1, .int 0), (0, 2, .int 0), (0, 3, .int 0), (0, 4, .int 0), (0, 6, .int 0)], [(false, .int 9839), (true, .retAddr 4)], [])
noncomputable def ax_c_251_101 : ax_ct := (161, (5, [(0, 29), (0, 54), (0, 7), (0, 54), (0, 7)], [], [], []), [], [some (.ref 244), some (.retAddr 0), some (.retAddr 1), some (.retAddr 2), some (.retAddr 3), some (.int 26), some (.retAddr 4)], [(0, 1, .int 0), (0, 2, .int 0), (0, 3, .int 0), (0, 4, .int 0), (0, 6, .int 0)], [(false, .int 9839), (true, .retAddr 4)], [])
noncomputable def ax_c_251_102 : ax_ct := (161, (5, [(0, 29), (0, 53), (0, 7), (0, 53), (0, 7)], [], [], []), [], [some (.ref 244), some (.retAddr 0), some (.retAddr 1), some (.retAddr 2), some (.retAddr 3), some (.int 27), some (.retAddr 4)], [(0, 1, .int 0), (0, 2, .int 0), (0, 3, .int 0), (0, 4, .int 0), (0, 6, .int 0)], [(false, .int 9839), (true, .retAddr 4)], [])
noncomputable def ax_c_251_103 : ax_ct := (161, (5, [(0, 29), (0, 52), (0, 7), (0, 52), (0, 7)], [], [], []), [], [some (.ref 244), some (.retAddr 0), some (.retAddr 1), some (.retAddr 2), some (.retAddr 3), some (.int 28), some (.retAddr 4)], [(0, 1, .int 0), (0, 2, .int 0), (0, 3, .int 0), (0, 4, .int 0), (0, 6, .int 0)], [(false, .int 9839), (true, .retAddr 4)], [])
noncomputable def ax_c_251_104 : ax_ct := (161, (5, [(0, 29), (0, 51), (0, 7), (0, 51), (0, 7)], [], [], []), [], [some (.ref 244), some (.retAddr 0), some (.retAddr 1), some (.retAddr 2), some (.retAddr 3), some (.int 29), some (.retAddr 4)], [(0, 1, .int 0), (0, 2, .int 0), (0, 3, .int 0), (0, 4, .int 0), (0, 6, .int 0)], [(false, .int 9839), (true, .retAddr 4)], [])
noncomputable def ax_c_251_105 : ax_ct := (161, (5, [(0, 3), (0, 77), (0, 7), (0, 77), (0, 7)], [], [], []), [], [some (.ref 244), some (.retAddr 0), some (.retAddr 1), some (.retAddr 2), some (.retAddr 3), some (.int 3), some (.retAddr 4)], [(0, 1, .int 0), (0, 2, .int 0), (0, 3, .int 0), (0, 4, .int 0), (0, 6, .int 0)], [(false, .int 9839), (true, .retAddr 4)], [])
noncomputable def ax_c_251_106 : ax_ct := (161, (5, [(0, 30), (0, 50), (0, 7), (0, 50), (0, 7)], [], [], []), [], [some (.ref 244), some (.retAddr 0), some (.retAddr 1), some (.retAddr 2), some (.retAddr 3), some (.int 30), some (.retAddr 4)], [(0, 1, .int 0), (0, 2, .int 0), (0, 3, .int 0), (0, 4, .int 0), (0, 6, .int 0)], [(false, .int 9839), (true, .retAddr 4)], [])
noncomputable def ax_c_251_107 : ax_ct := (161, (5, [(0, 31), (0, 49), (0, 7), (0, 49), (0, 7)], [], [], []), [], [some (.ref 244), some (.retAddr 0), some (.retAddr 1), some (.retAddr 2), some (.retAddr 3), some (.int 31), some (.retAddr 4)], [(0, 1, .int 0), (0, 2, .int 0), (0, 3, .int 0), (0, 4, .int 0), (0, 6, .int 0)], [(false, .int 9839), (true, .retAddr 4)], [])
noncomputable def ax_c_251_108 : ax_ct := (161, (5, [(0, 36), (0, 48), (0, 7), (0, 48), (0, 7)], [], [], []), [], [some (.ref 244), some (.retAddr 0), some (.retAddr 1), some (.retAddr 2), some (.retAddr 3), some (.int 32), some (.retAddr 4)], [(0, 1, .int 0), (0, 2, .int 0), (0, 3, .int 0), (0, 4, .int 0), (0, 6, .int 0)], [(false, .int 9839), (true, .retAddr 4)], [])
noncomputable def ax_c_251_109 : ax_ct := (161, (5, [(0, 36), (0, 47), (0, 7), (0, 47), (0, 7)], [], [], []), [], [some (.ref 244), some (.retAddr 0), some (.retAddr 1), some (.retAddr 2), some (.retAddr 3), some (.int 33), some (.retAddr 4)], [(0, 1, .int 0), (0, 2, .int 0), (0, 3, .int 0), (0, 4, .int 0), (0, 6, .int 0)], [(false, .int 9839), (true, .retAddr 4)], [])
noncomputable def ax_c_251_110 : ax_ct := (161, (5, [(0, 36), (0, 46), (0, 7), (0, 46), (0, 7)], [], [], []), [], [some (.ref 244), some (.retAddr 0), some (.retAddr 1), some (.retAddr 2), some (.retAddr 3), some (.int 34), some (.retAddr 4)], [(0, 1, .int 0), (0, 2, .int 0), (0, 3, .int 0), (0, 4, .int 0), (0, 6, .int 0)], [(false, .int 9839), (true, .retAddr 4)], [])
noncomputable def ax_c_251_111 : ax_ct := (161, (5, [(0, 36), (0, 45), (0, 7), (0, 45), (0, 7)], [], [], []), [], [some (.ref 244), some (.retAddr 0), some (.retAddr 1), some (.retAddr 2), some (.retAddr 3), some (.int 35), some (.retAddr 4)], [(0, 1, .int 0), (0, 2, .int 0), (0, 3, .int 0), (0, 4, .int 0), (0, 6, .int 0)], [(false, .int 9839), (true, .retAddr 4)], [])
noncomputable def ax_c_251_112 : ax_ct := (161, (5, [(0, 36), (0, 44), (0, 7), (0, 44), (0, 7)], [], [], []), [], [some (.ref 244), some (.retAddr 0), some (.retAddr 1), some (.retAddr 2), some (.retAddr 3), some (.int 36), some (.retAddr 4)], [(0, 1, .int 0), (0, 2, .int 0), (0, 3, .int 0), (0, 4, .int 0), (0, 6, .int 0)], [(false, .int 9839), (true, .retAddr 4)], [])
noncomputable def ax_c_251_113 : ax_ct := (161, (5, [(0, 57), (0, 43), (0, 7), (0, 43), (0, 7)], [], [], []), [], [some (.ref 244), some (.retAddr 0), some (.retAddr 1), some (.retAddr 2), some (.retAddr 3), some (.int 37), some (.retAddr 4)], [(0, 1, .int 0), (0, 2, .int 0), (0, 3, .int 0), (0, 4, .int 0), (0, 6, .int 0)], [(false, .int 9839), (true, .retAddr 4)], [])
noncomputable def ax_c_251_114 : ax_ct := (161, (5, [(0, 57), (0, 42), (0, 7), (0, 42), (0, 7)], [], [], []), [], [some (.ref 244), some (.retAddr 0), some (.retAddr 1), some (.retAddr 2), some (.retAddr 3), some (.int 38), some (.retAddr 4)], [(0, 1, .int 0), (0, 2, .int 0), (0, 3, .int 0), (0, 4, .int 0), (0, 6, .int 0)], [(false, .int 9839), (true, .retAddr 4)], [])
noncomputable def ax_c_251_115 : ax_ct := (161, (5, [(0, 57), (0, 41), (0, 7), (0, 41), (0, 7)], [], [], []), [], [some (.ref 244), some (.retAddr 0), some (.retAddr 1), some (.retAddr 2), some (.retAddr 3), some (.int 39), some (.retAddr 4)], [(0, 1, .int 0), (0, 2, .int 0), (0, 3, .int 0), (0, 4, .int 0), (0, 6, .int 0)], [(false, .int 9839), (true, .retAddr 4)], [])
noncomputable def ax_c_251_116 : ax_ct := (161, (5, [(0, 4), (0, 76), (0, 7), (0, 76), (0, 7)], [], [], []), [], [some (.ref 244), some (.retAddr 0), some (.retAddr 1), some (.retAddr 2), some (.retAddr 3), some (.int 4), some (.retAddr 4)], [(0, 1, .int 0), (0, 2, .int 0), (0, 3, .int 0), (0, 4, .int 0), (0, 6, .int 0)], [(false, .int 9839), (true, .retAddr 4)], [])
noncomputable def ax_c_251_117 : ax_ct := (161, (5, [(0, 57), (0, 40), (0, 7), (0, 40), (0, 7)], [], [], []), [], [some (.ref 244), some (.retAddr 0), some (.retAddr 1), some (.retAddr 2), some (.retAddr 3), some (.int 40), some (.retAddr 4)], [(0, 1, .int 0), (0, 2, .int 0), (0, 3, .int 0), (0, 4, .int 0), (0, 6, .int 0)], [(false, .int 9839), (true, .retAddr 4)], [])
noncomputable def ax_c_251_118 : ax_ct := (161, (5, [(0, 57), (0, 39), (0, 7), (0, 39), (0, 7)], [], [], []), [], [some (.ref 244), some (.retAddr 0), some (.retAddr 1), some (.retAddr 2), some (.retAddr 3), some (.int 41), some (.retAddr 4)], [(0, 1, .int 0), (0, 2, .int 0), (0, 3, .int 0), (0, 4, .int 0), (0, 6, .int 0)], [(false, .int 9839), (true, .retAddr 4)], [])
noncomputable def ax_c_251_119 : ax_ct := (161, (5, [(0, 57), (0, 38), (0, 7), (0, 38), (0, 7)], [], [], []), [], [some (.ref 244), some (.retAddr 0), some (.retAddr 1), some (.retAddr 2), some (.retAddr 3), some (.int 42), some (.retAddr 4)], [(0, 1, .int 0), (0, 2, .int 0), (0, 3, .int 0), (0, 4, .int 0), (0, 6, .int 0)], [(false, .int 9839), (true, .retAddr 4)], [])
noncomputable def ax_c_251_120 : ax_ct := (161, (5, [(0, 57), (0, 37), (0, 7), (0, 37), (0, 7)], [], [], []), [], [some (.ref 244), some (.retAddr 0), some (.retAddr 1), some (.retAddr 2), some (.retAddr 3), some (.int 43), some (.retAddr 4)], [(0, 1, .int 0), (0, 2, .int 0), (0, 3, .int 0), (0, 4, .int 0), (0, 6, .int 0)], [(false, .int 9839), (true, .retAddr 4)], [])
noncomputable def ax_c_251_121 : ax_ct := (161, (5, [(0, 57), (0, 36), (0, 7), (0, 36), (0, 7)], [], [], []), [], [some (.ref 244), some (.retAddr 0), some (.retAddr 1), some (.retAddr 2), some (.retAddr 3), some (.int 44), some (.retAddr 4)], [(0, 1, .int 0), (0, 2, .int 0), (0, 3, .int 0), (0, 4, .int 0), (0, 6, .int 0)], [(false, .int 9839), (true, .retAddr 4)], [])
noncomputable def ax_c_251_122 : ax_ct := (161, (5, [(0, 57), (0, 35), (0, 7), (0, 35), (0, 7)], [], [], []), [], [some (.ref 244), some (.retAddr 0), some (.retAddr 1), some (.retAddr 2), some (.retAddr 3), some (.int 45), some (.retAddr 4)], [(0, 1, .int 0), (0, 2, .int 0), (0, 3, .int 0), (0, 4, .int 0), (0, 6, .int 0)], [(false, .int 9839), (true, .retAddr 4)], [])
noncomputable def ax_c_251_123 : ax_ct := (161, (5, [(0, 57), (0, 34), (0, 7), (0, 34), (0, 7)], [], [], []), [], [some (.ref 244), some (.retAddr 0), some (.retAddr 1), some (.retAddr 2), some (.retAddr 3), some (.int 46), some (.retAddr 4)], [(0, 1, .int 0), (0, 2, .int 0), (0, 3, .int 0), (0, 4, .int 0), (0, 6, .int 0)], [(false, .int 9839), (true, .retAddr 4)], [])
noncomputable def ax_c_251_124 : ax_ct := (161, (5, [(0, 57), (0, 33), (0, 7), (0, 33), (0, 7)], [], [], []), [], [some (.ref 244), some (.retAddr 0), some (.retAddr 1), some (.retAddr 2), some (.retAddr 3), some (.int 47), some (.retAddr 4)], [(0, 1, .int 0), (0, 2, .int 0), (0, 3, .int 0), (0, 4, .int 0), (0, 6, .int 0)], [(false, .int 9839), (true, .retAddr 4)], [])
noncomputable def ax_c_251_125 : ax_ct := (161, (5, [(0, 57), (0, 32), (0, 7), (0, 32), (0, 7)], [], [], []), [], [some (.ref 244), some (.retAddr 0), some (.retAddr 1), some (.retAddr 2), some (.retAddr 3), some (.int 48), some (.retAddr 4)], [(0, 1, .int 0), (0, 2, .int 0), (0, 3, .int 0), (0, 4, .int 0), (0, 6, .int 0)], [(false, .int 9839), (true, .retAddr 4)], [])
noncomputable def ax_c_251_126 : ax_ct := (161, (5, [(0, 57), (0, 31), (0, 7), (0, 31), (0, 7)], [], [], []), [], [some (.ref 244), some (.retAddr 0), some (.retAddr 1), some (.retAddr 2), some (.retAddr 3), some (.int 49), some (.retAddr 4)], [(0, 1, .int 0), (0, 2, .int 0), (0, 3, .int 0), (0, 4, .int 0), (0, 6, .int 0)], [(false, .int 9839), (true, .retAddr 4)], [])
noncomputable def ax_c_251_127 : ax_ct := (161, (5, [(0, 5), (0, 75), (0, 7), (0, 75), (0, 7)], [], [], []), [], [some (.ref 244), some (.retAddr 0), some (.retAddr 1), some (.retAddr 2), some (.retAddr 3), some (.int 5), some (.retAddr 4)], [(0, 1, .int 0), (0, 2, .int 0), (0, 3, .int 0), (0, 4, .int 0), (0, 6, .int 0)], [(false, .int 9839), (true, .retAddr 4)], [])
noncomputable def ax_c_251_128 : ax_ct := (161, (5, [(0, 57), (0, 30), (0, 7), (0, 30), (0, 7)], [], [], []), [], [some (.ref 244), some (.retAddr 0), some (.retAddr 1), some (.retAddr 2), some (.retAddr 3), some (.int 50), some (.retAddr 4)], [(0, 1, .int 0), (0, 2, .int 0), (0, 3, .int 0), (0, 4, .int 0), (0, 6, .int 0)], [(false, .int 9839), (true, .retAddr 4)], [])
noncomputable def ax_c_251_129 : ax_ct := (161, (5, [(0, 57), (0, 29), (0, 7), (0, 29), (0, 7)], [], [], []), [], [some (.ref 244), some (.retAddr 0), some (.retAddr 1), some (.retAddr 2), some (.retAddr 3), some (.int 51), some (.retAddr 4)], [(0, 1, .int 0), (0, 2, .int 0), (0, 3, .int 0), (0, 4, .int 0), (0, 6, .int 0)], [(false, .int 9839), (true, .retAddr 4)], [])
noncomputable def ax_c_251_130 : ax_ct := (161, (5, [(0, 57), (0, 28), (0, 7), (0, 28), (0, 7)], [], [], []), [], [some (.ref 244), some (.retAddr 0), some (.retAddr 1), some (.retAddr 2), some (.retAddr 3), some (.int 52), some (.retAddr 4)], [(0, 1, .int 0), (0, 2, .int 0), (0, 3, .int 0), (0, 4, .int 0), (0, 6, .int 0)], [(false, .int 9839), (true, .retAddr 4)], [])
noncomputable def ax_c_251_131 : ax_ct := (161, (5, [(0, 57), (0, 27), (0, 7), (0, 27), (0, 7)], [], [], []), [], [some (.ref 244), some (.retAddr 0), some (.retAddr 1), some (.retAddr 2), some (.retAddr 3), some (.int 53), some (.retAddr 4)], [(0, 1, .int 0), (0, 2, .int 0), (0, 3, .int 0), (0, 4, .int 0), (0, 6, .int 0)], [(false, .int 9839), (true, .retAddr 4)], [])
noncomputable def ax_c_251_132 : ax_ct := (161, (5, [(0, 57), (0, 26), (0, 7), (0, 26), (0, 7)], [], [], []), [], [some (.ref 244), some (.retAddr 0), some (.retAddr 1), some (.retAddr 2), some (.retAddr 3), some (.int 54), some (.retAddr 4)], [(0, 1, .int 0), (0, 2, .int 0), (0, 3, .int 0), (0, 4, .int 0), (0, 6, .int 0)], [(false, .int 9839), (true, .retAddr 4)], [])
noncomputable def ax_c_251_133 : ax_ct := (161, (5, [(0, 57), (0, 25), (0, 7), (0, 25), (0, 7)], [], [], []), [], [some (.ref 244), some (.retAddr 0), some (.retAddr 1), some (.retAddr 2), some (.retAddr 3), some (.int 55), some (.retAddr 4)], [(0, 1, .int 0), (0, 2, .int 0), (0, 3, .int 0), (0, 4, .int 0), (0, 6, .int 0)], [(false, .int 9839), (true, .retAddr 4)], [])
noncomputable def ax_c_251_134 : ax_ct := (161, (5, [(0, 57), (0, 24), (0, 7), (0, 24), (0, 7)], [], [], []), [], [some (.ref 244), some (.retAddr 0), some (.retAddr 1), some (.retAddr 2), some (.retAddr 3), some (.int 56), some (.retAddr 4)], [(0, 1, .int 0), (0, 2, .int 0), (0, 3, .int 0), (0, 4, .int 0), (0, 6, .int 0)], [(false, .int 9839), (true, .retAddr 4)], [])
noncomputable def ax_c_251_135 : ax_ct := (161, (5, [(0, 57), (0, 23), (0, 7), (0, 23), (0, 7)], [], [], []), [], [some (.ref 244), some (.retAddr 0), some (.retAddr 1), some (.retAddr 2), some (.retAddr 3), some (.int 57), some (.retAddr 4)], [(0, 1, .int 0), (0, 2, .int 0), (0, 3, .int 0), (0, 4, .int 0), (0, 6, .int 0)], [(false, .int 9839), (true, .retAddr 4)], [])
noncomputable def ax_c_251_136 : ax_ct := (161, (5, [(0, 60), (0, 22), (0, 7), (0, 22), (0, 7)], [], [], []), [], [some (.ref 244), some (.retAddr 0), some (.retAddr 1), some (.retAddr 2), some (.retAddr 3), some (.int 58), some (.retAddr 4)], [(0, 1, .int 0), (0, 2, .int 0), (0, 3, .int 0), (0, 4, .int 0), (0, 6, .int 0)], [(false, .int 9839), (true, .retAddr 4)], [])
noncomputable def ax_c_251_137 : ax_ct := (161, (5, [(0, 60), (0, 21), (0, 7), (0, 21), (0, 7)], [], [], []), [], [some (.ref 244), some (.retAddr 0), some (.retAddr 1), some (.retAddr 2), some (.retAddr 3), some (.int 59), some (.retAddr 4)], [(0, 1, .int 0), (0, 2, .int 0), (0, 3, .int 0), (0, 4, .int 0), (0, 6, .int 0)], [(false, .int 9839), (true, .retAddr 4)], [])
noncomputable def ax_c_251_138 : ax_ct := (161, (5, [(0, 6), (0, 74), (0, 7), (0, 74), (0, 7)], [], [], []), [], [some (.ref 244), some (.retAddr 0), some (.retAddr 1), some (.retAddr 2), some (.retAddr 3), some (.int 6), some (.retAddr 4)], [(0, 1, .int 0), (0, 2, .int 0), (0, 3, .int 0), (0, 4, .int 0), (0, 6, .int 0)], [(false, .int 9839), (true, .retAddr 4)], [])
noncomputable def ax_c_251_139 : ax_ct := (161, (5, [(0, 60), (0, 20), (0, 7), (0, 20), (0, 7)], [], [], []), [], [some (.ref 244), some (.retAddr 0), some (.retAddr 1), some (.retAddr 2), some (.retAddr 3), some (.int 60), some (.retAddr 4)], [(0, 1, .int 0), (0, 2, .int 0), (0, 3, .int 0), (0, 4, .int 0), (0, 6, .int 0)], [(false, .int 9839), (true, .retAddr 4)], [])
noncomputable def ax_c_251_140 : ax_ct := (161, (5, [(0, 79), (0, 19), (0, 7), (0, 19), (0, 7)], [], [], []), [], [some (.ref 244), some (.retAddr 0), some (.retAddr 1), some (.retAddr 2), some (.retAddr 3), some (.int 61), some (.retAddr 4)], [(0, 1, .int 0), (0, 2, .int 0), (0, 3, .int 0), (0, 4, .int 0), (0, 6, .int 0)], [(false, .int 9839), (true, .retAddr 4)], [])
noncomputable def ax_c_251_141 : ax_ct := (161, (5, [(0, 79), (0, 18), (0, 7), (0, 18), (0, 7)], [], [], []), [], [some (.ref 244), some (.retAddr 0), some (.retAddr 1), some (.retAddr 2), some (.retAddr 3), some (.int 62), some (.retAddr 4)], [(0, 1, .int 0), (0, 2, .int 0), (0, 3, .int 0), (0, 4, .int 0), (0, 6, .int 0)], [(false, .int 9839), (true, .retAddr 4)], [])
noncomputable def ax_c_251_142 : ax_ct := (161, (5, [(0, 79), (0, 17), (0, 7), (0, 17), (0, 7)], [], [], []), [], [some (.ref 244), some (.retAddr 0), some (.retAddr 1), some (.retAddr 2), some (.retAddr 3), some (.int 63), some (.retAddr 4)], [(0, 1, .int 0), (0, 2, .int 0), (0, 3, .int 0), (0, 4, .int 0), (0, 6, .int 0)], [(false, .int 9839), (true, .retAddr 4)], [])
noncomputable def ax_c_251_143 : ax_ct := (161, (5, [(0, 79), (0, 16), (0, 7), (0, 16), (0, 7)], [], [], []), [], [some (.ref 244), some (.retAddr 0), some (.retAddr 1), some (.retAddr 2), some (.retAddr 3), some (.int 64), some (.retAddr 4)], [(0, 1, .int 0), (0, 2, .int 0), (0, 3, .int 0), (0, 4, .int 0), (0, 6, .int 0)], [(false, .int 9839), (true, .retAddr 4)], [])
noncomputable def ax_c_251_144 : ax_ct := (161, (5, [(0, 79), (0, 15), (0, 7), (0, 15), (0, 7)], [], [], []), [], [some (.ref 244), some (.retAddr 0), some (.retAddr 1), some (.retAddr 2), some (.retAddr 3), some (.int 65), some (.retAddr 4)], [(0, 1, .int 0), (0, 2, .int 0), (0, 3, .int 0), (0, 4, .int 0), (0, 6, .int 0)], [(false, .int 9839), (true, .retAddr 4)], [])
noncomputable def ax_c_251_145 : ax_ct := (161, (5, [(0, 79), (0, 14), (0, 7), (0, 14), (0, 7)], [], [], []), [], [some (.ref 244), some (.retAddr 0), some (.retAddr 1), some (.retAddr 2), some (.retAddr 3), some (.int 66), some (.retAddr 4)], [(0, 1, .int 0), (0, 2, .int 0), (0, 3, .int 0), (0, 4, .int 0), (0, 6, .int 0)], [(false, .int 9839), (true, .retAddr 4)], [])
noncomputable def ax_c_251_146 : ax_ct := (161, (5, [(0, 79), (0, 13), (0, 7), (0, 13), (0, 7)], [], [], []), [], [some (.ref 244), some (.retAddr 0), some (.retAddr 1), some (.retAddr 2), some (.retAddr 3), some (.int 67), some (.retAddr 4)], [(0, 1, .int 0), (0, 2, .int 0), (0, 3, .int 0), (0, 4, .int 0), (0, 6, .int 0)], [(false, .int 9839), (true, .retAddr 4)], [])
noncomputable def ax_c_251_147 : ax_ct := (161, (5, [(0, 79), (0, 12), (0, 7), (0, 12), (0, 7)], [], [], []), [], [some (.ref 244), some (.retAddr 0), some (.retAddr 1), some (.retAddr 2), some (.retAddr 3), some (.int 68), some (.retAddr 4)], [(0, 1, .int 0), (0, 2, .int 0), (0, 3, .int 0), (0, 4, .int 0), (0, 6, .int 0)], [(false, .int 9839), (true, .retAddr 4)], [])
noncomputable def ax_c_251_148 : ax_ct := (161, (5, [(0, 79), (0, 11), (0, 7), (0, 11), (0, 7)], [], [], []), [], [some (.ref 244), some (.retAddr 0), some (.retAddr 1), some (.retAddr 2), some (.retAddr 3), some (.int 69), some (.retAddr 4)], [(0, 1, .int 0), (0, 2, .int 0), (0, 3, .int 0), (0, 4, .int 0), (0, 6, .int 0)], [(false, .int 9839), (true, .retAddr 4)], [])
noncomputable def ax_c_251_149 : ax_ct := (161, (5, [(0, 7), (0, 73), (0, 7), (0, 73), (0, 7)], [], [], []), [], [some (.ref 244), some (.retAddr 0), some (.retAddr 1), some (.retAddr 2), some (.retAddr 3), some (.int 7), some (.retAddr 4)], [(0, 1, .int 0), (0, 2, .int 0), (0, 3, .int 0), (0, 4, .int 0), (0, 6, .int 0)], [(false, .int 9839), (true, .retAddr 4)], [])
noncomputable def ax_c_251_150 : ax_ct := (161, (5, [(0, 79), (0, 10), (0, 7), (0, 10), (0, 7)], [], [], []), [], [some (.ref 244), some (.retAddr 0), some (.retAddr 1), some (.retAddr 2), some (.retAddr 3), some (.int 70), some (.retAddr 4)], [(0, 1, .int 0), (0, 2, .int 0), (0, 3, .int 0), (0, 4, .int 0), (0, 6, .int 0)], [(false, .int 9839), (true, .retAddr 4)], [])
noncomputable def ax_c_251_151 : ax_ct := (161, (5, [(0, 79), (0, 9), (0, 7), (0, 9), (0, 7)], [], [], []), [], [some (.ref 244), some (.retAddr 0), some (.retAddr 1), some (.retAddr 2), some (.retAddr 3), some (.int 71), some (.retAddr 4)], [(0, 1, .int 0), (0, 2, .int 0), (0, 3, .int 0), (0, 4, .int 0), (0, 6, .int 0)], [(false, .int 9839), (true, .retAddr 4)], [])
noncomputable def ax_c_251_152 : ax_ct := (161, (5, [(0, 79), (0, 8), (0, 7), (0, 8), (0, 7)], [], [], []), [], [some (.ref 244), some (.retAddr 0), some (.retAddr 1), some (.retAddr 2), some (.retAddr 3), some (.int 72), some (.retAddr 4)], [(0, 1, .int 0), (0, 2, .int 0), (0, 3, .int 0), (0, 4, .int 0), (0, 6, .int 0)], [(false, .int 9839), (true, .retAddr 4)], [])
noncomputable def ax_c_251_153 : ax_ct := (161, (5, [(0, 79), (0, 7), (0, 7), (0, 7), (0, 7)], [], [], []), [], [some (.ref 244), some (.retAddr 0), some (.retAddr 1), some (.retAddr 2), some (.retAddr 3), some (.int 73), some (.retAddr 4)], [(0, 1, .int 0), (0, 2, .int 0), (0, 3, .int 0), (0, 4, .int 0), (0, 6, .int 0)], [(false, .int 9839), (true, .retAddr 4)], [])
noncomputable def ax_c_251_154 : ax_ct := (161, (5, [(0, 79), (0, 6), (0, 7), (0, 6), (0, 7)], [], [], []), [], [some (.ref 244), some (.retAddr 0), some (.retAddr 1), some (.retAddr 2), some (.retAddr 3), some (.int 74), some (.retAddr 4)], [(0, 1, .int 0), (0, 2, .int 0), (0, 3, .int 0), (0, 4, .int 0), (0, 6, .int 0)], [(false, .int 9839), (true, .retAddr 4)], [])
noncomputable def ax_c_251_155 : ax_ct := (161, (5, [(0, 79), (0, 5), (0, 7), (0, 5), (0, 7)], [], [], []), [], [some (.ref 244), some (.retAddr 0), some (.retAddr 1), some (.retAddr 2), some (.retAddr 3), some (.int 75), some (.retAddr 4)], [(0, 1, .int 0), (0, 2, .int 0), (0, 3, .int 0), (0, 4, .int 0), (0, 6, .int 0)], [(false, .int 9839), (true, .retAddr 4)], [])
noncomputable def ax_c_251_156 : ax_ct := (161, (5, [(0, 79), (0, 4), (0, 7), (0, 4), (0, 7)], [], [], []), [], [some (.ref 244), some (.retAddr 0), some (.retAddr 1), some (.retAddr 2), some (.retAddr 3), some (.int 76), some (.retAddr 4)], [(0, 1, .int 0), (0, 2, .int 0), (0, 3, .int 0), (0, 4, .int 0), (0, 6, .int 0)], [(false, .int 9839), (true, .retAddr 4)], [])
noncomputable def ax_c_251_157 : ax_ct := (161, (5, [(0, 79), (0, 3), (0, 7), (0, 3), (0, 7)], [], [], []), [], [some (.ref 244), some (.retAddr 0), some (.retAddr 1), some (.retAddr 2), some (.retAddr 3), some (.int 77), some (.retAddr 4)], [(0, 1, .int 0), (0, 2, .int 0), (0, 3, .int 0), (0, 4, .int 0), (0, 6, .int 0)], [(false, .int 9839), (true, .retAddr 4)], [])
noncomputable def ax_c_251_158 : ax_ct := (161, (5, [(0, 79), (0, 2), (0, 7), (0, 2), (0, 7)], [], [], []), [], [some (.ref 244), some (.retAddr 0), some (.retAddr 1), some (.retAddr 2), some (.retAddr 3), some (.int 78), some (.retAddr 4)], [(0, 1, .int 0), (0, 2, .int 0), (0, 3, .int 0), (0, 4, .int 0), (0, 6, .int 0)], [(false, .int 9839), (true, .retAddr 4)], [])
noncomputable def ax_c_251_159 : ax_ct := (161, (5, [(0, 79), (0, 1), (0, 7), (0, 1), (0, 7)], [], [], []), [], [some (.ref 244), some (.retAddr 0), some (.retAddr 1), some (.retAddr 2), some (.retAddr 3), some (.int 79), some (.retAddr 4)], [(0, 1, .int 0), (0, 2, .int 0), (0, 3, .int 0), (0, 4, .int 0), (0, 6, .int 0)], [(false, .int 9839), (true, .retAddr 4)], [])
noncomputable def ax_c_251_160 : ax_ct := (161, (5, [(0, 8), (0, 72), (0, 7), (0, 72), (0, 7)], [], [], []), [], [some (.ref 244), some (.retAddr 0), some (.retAddr 1), some (.retAddr 2), some (.retAddr 3), some (.int 8), some (.retAddr 4)], [(0, 1, .int 0), (0, 2, .int 0), (0, 3, .int 0), (0, 4, .int 0), (0, 6, .int 0)], [(false, .int 9839), (true, .retAddr 4)], [])
noncomputable def ax_c_251_161 : ax_ct := (161, (5, [(0, 80), (0, 0), (0, 7), (0, 0), (0, 7)], [], [], []), [], [some (.ref 244), some (.retAddr 0), some (.retAddr 1), some (.retAddr 2), some (.retAddr 3), some (.int 80), some (.retAddr 4)], [(0, 1, .int 0), (0, 2, .int 0), (0, 3, .int 0), (0, 4, .int 0), (0, 6, .int 0)], [(false, .int 9839), (true, .retAddr 4)], [])
noncomputable def ax_c_251_162 : ax_ct := (161, (5, [(0, 9), (0, 71), (0, 7), (0, 71), (0, 7)], [], [], []), [], [some (.ref 244), some (.retAddr 0), some (.retAddr 1), some (.retAddr 2), some (.retAddr 3), some (.int 9), some (.retAddr 4)], [(0, 1, .int 0), (0, 2, .int 0), (0, 3, .int 0), (0, 4, .int 0), (0, 6, .int 0)], [(false, .int 9839), (true, .retAddr 4)], [])
noncomputable def ax_t_251 : List ax_ct := [ax_c_251_0, ax_c_251_1, ax_c_251_2, ax_c_251_3, ax_c_251_4, ax_c_251_5, ax_c_251_6, ax_c_251_7, ax_c_251_8, ax_c_251_9, ax_c_251_10, ax_c_251_11, ax_c_251_12, ax_c_251_13, ax_c_251_14, ax_c_251_15, ax_c_251_16, ax_c_251_17, ax_c_251_18, ax_c_251_19, ax_c_251_20, ax_c_251_21, ax_c_251_22, ax_c_251_23, ax_c_251_24, ax_c_251_25, ax_c_251_26, ax_c_251_27, ax_c_251_28, ax_c_251_29, ax_c_251_30, ax_c_251_31, ax_c_251_32, ax_c_251_33, ax_c_251_34, ax_c_251_35, ax_c_251_36, ax_c_251_37, ax_c_251_38, ax_c_251_39, ax_c_251_40, ax_c_251_41, ax_c_251_42, ax_c_251_43, ax_c_251_44, ax_c_251_45, ax_c_251_46, ax_c_251_47, ax_c_251_48, ax_c_251_49, ax_c_251_50, ax_c_251_51, ax_c_251_52, ax_c_251_53, ax_c_251_54, ax_c_251_55, ax_c_251_56, ax_c_251_57, ax_c_251_58, ax_c_251_59, ax_c_251_60, ax_c_251_61, ax_c_251_62, ax_c_251_63, ax_c_251_64, ax_c_251_65, ax_c_251_66, ax_c_251_67, ax_c_251_68, ax_c_251_69, ax_c_251_70, ax_c_251_71, ax_c_251_72, ax_c_251_73, ax_c_251_74, ax_c_251_75, ax_c_251_76, ax_c_251_77, ax_c_251_78, ax_c_251_79, ax_c_251_80, ax_c_251_81, ax_c_251_82, ax_c_251_83, ax_c_251_84, ax_c_251_85, ax_c_251_86, ax_c_251_87, ax_c_251_88, ax_c_251_89, ax_c_251_90, ax_c_251_91, ax_c_251_92, ax_c_251_93, ax_c_251_94, ax_c_251_95, ax_c_251_96, ax_c_251_97, ax_c_251_98, ax_c_251_99, ax_c_251_100, ax_c_251_101, ax_c_251_102, ax_c_251_103, ax_c_251_104, ax_c_251_105, ax_c_251_106, ax_c_251_107, ax_c_251_108, ax_c_251_109, ax_c_251_110, ax_c_251_111, ax_c_251_112, ax_c_251_113, ax_c_251_114, ax_c_251_115, ax_c_251_116, ax_c_251_117, ax_c_251_118, ax_c_251_119, ax_c_251_120, ax_c_251_121, ax_c_251_122, ax_c_251_123, ax_c_251_124, ax_c_251_125, ax_c_251_126, ax_c_251_127, ax_c_251_128, ax_c_251_129, ax_c_251_130, ax_c_251_131, ax_c_251_132, ax_c_251_133, ax_c_251_134, ax_c_251_135, ax_c_251_136, ax_c_251_137, ax_c_251_138, ax_c_251_139, ax_c_251_140, ax_c_251_141, ax_c_251_142, ax_c_251_143, ax_c_251_144, ax_c_251_145, ax_c_251_146, ax_c_251_147, ax_c_251_148, ax_c_251_149, ax_c_251_150, ax_c_251_151, ax_c_251_152, ax_c_251_153, ax_c_251_154, ax_c_251_155, ax_c_251_156, ax_c_251_157, ax_c_251_158, ax_c_251_159, ax_c_251_160, ax_c_251_161, ax_c_251_162]
noncomputable def ax_w_251 : ax_D := ([], [(287, 287), (289, 289)])
noncomputable def ax_p_251 : ax_po := (some (some ((-15), 80)), [], false, false, [])
noncomputable def ax_s_251 : ax_s9 := (242, ax_sumc ax_sp ax_c_251_0 2, ax_w_251, ax_p_251)
noncomputable def ax_l_251 : ax_Y := []
set_option maxRecDepth 1000000 in
theorem ax_k_251_0 : ax_cr9 ax_w_251 ax_l_251 ax_t_251 242 2 40000 ax_p_251 ax_c_251_0 = true := by decide +kernel
set_option maxRecDepth 1000000 in
theorem ax_k_251_1 : ax_cr9 ax_w_251 ax_l_251 ax_t_251 242 2 40000 ax_p_251 ax_c_251_1 = true := by decide +kernel
set_option maxRecDepth 1000000 in
theorem ax_k_251_2 : ax_cr9 ax_w_251 ax_l_251 ax_t_251 242 2 40000 ax_p_251 ax_c_251_2 = true := by decide +kernel
set_option maxRecDepth 1000000 in
theorem ax_k_251_3 : ax_cr9 ax_w_251 ax_l_251 ax_t_251 242 2 40000 ax_p_251 ax_c_251_3 = true := by decide +kernel
set_option maxRecDepth 1000000 in
theorem ax_k_251_4 : ax_cr9 ax_w_251 ax_l_251 ax_t_251 242 2 40000 ax_p_251 ax_c_251_4 = true := by decide +kernel
set_option maxRecDepth 1000000 in
theorem ax_k_251_5 : ax_cr9 ax_w_251 ax_l_251 ax_t_251 242 2 40000 ax_p_251 ax_c_251_5 = true := by decide +kernel
set_option maxRecDepth 1000000 in
theorem ax_k_251_6 : ax_cr9 ax_w_251 ax_l_251 ax_t_251 242 2 40000 ax_p_251 ax_c_251_6 = true := by decide +kernel
set_option maxRecDepth 1000000 in
theorem ax_k_251_7 : ax_cr9 ax_w_251 ax_l_251 ax_t_251 242 2 40000 ax_p_251 ax_c_251_7 = true := by decide +kernel
set_option maxRecDepth 1000000 in
theorem ax_k_251_8 : ax_cr9 ax_w_251 ax_l_251 ax_t_251 242 2 40000 ax_p_251 ax_c_251_8 = true := by decide +kernel
set_option maxRecDepth 1000000 in
theorem ax_k_251_9 : ax_cr9 ax_w_251 ax_l_251 ax_t_251 242 2 40000 ax_p_251 ax_c_251_9 = true := by decide +kernel
set_option maxRecDepth 1000000 in
theorem ax_k_251_10 : ax_cr9 ax_w_251 ax_l_251 ax_t_251 242 2 40000 ax_p_251 ax_c_251_10 = true := by decide +kernel
set_option maxRecDepth 1000000 in
theorem ax_k_251_11 : ax_cr9 ax_w_251 ax_l_251 ax_t_251 242 2 40000 ax_p_251 ax_c_251_11 = true := by decide +kernel
set_option maxRecDepth 1000000 in
theorem ax_k_251_12 : ax_cr9 ax_w_251 ax_l_251 ax_t_251 242 2 40000 ax_p_251 ax_c_251_12 = true := by decide +kernel
set_option maxRecDepth 1000000 in
theorem ax_k_251_13 : ax_cr9 ax_w_251 ax_l_251 ax_t_251 242 2 40000 ax_p_251 ax_c_251_13 = true := by decide +kernel
set_option maxRecDepth 1000000 in
theorem ax_k_251_14 : ax_cr9 ax_w_251 ax_l_251 ax_t_251 242 2 40000 ax_p_251 ax_c_251_14 = true := by decide +kernel
set_option maxRecDepth 1000000 in
theorem ax_k_251_15 : ax_cr9 ax_w_251 ax_l_251 ax_t_251 242 2 40000 ax_p_251 ax_c_251_15 = true := by decide +kernel
set_option maxRecDepth 1000000 in
theorem ax_k_251_16 : ax_cr9 ax_w_251 ax_l_251 ax_t_251 242 2 40000 ax_p_251 ax_c_251_16 = true := by decide +kernel
set_option maxRecDepth 1000000 in
theorem ax_k_251_17 : ax_cr9 ax_w_251 ax_l_251 ax_t_251 242 2 40000 ax_p_251 ax_c_251_17 = true := by decide +kernel
set_option maxRecDepth 1000000 in
theorem ax_k_251_18 : ax_cr9 ax_w_251 ax_l_251 ax_t_251 242 2 40000 ax_p_251 ax_c_251_18 = true := by decide +kernel
set_option maxRecDepth 1000000 in
theorem ax_k_251_19 : ax_cr9 ax_w_251 ax_l_251 ax_t_251 242 2 40000 ax_p_251 ax_c_251_19 = true := by decide +kernel
set_option maxRecDepth 1000000 in
theorem ax_k_251_20 : ax_cr9 ax_w_251 ax_l_251 ax_t_251 242 2 40000 ax_p_251 ax_c_251_20 = true := by decide +kernel
set_option maxRecDepth 1000000 in
theorem ax_k_251_21 : ax_cr9 ax_w_251 ax_l_251 ax_t_251 242 2 40000 ax_p_251 ax_c_251_21 = true := by decide +kernel
set_option maxRecDepth 1000000 in
theorem ax_k_251_22 : ax_cr9 ax_w_251 ax_l_251 ax_t_251 242 2 40000 ax_p_251 ax_c_251_22 = true := by decide +kernel
set_option maxRecDepth 1000000 in
theorem ax_k_251_23 : ax_cr9 ax_w_251 ax_l_251 ax_t_251 242 2 40000 ax_p_251 ax_c_251_23 = true := by decide +kernel
set_option maxRecDepth 1000000 in
theorem ax_k_251_24 : ax_cr9 ax_w_251 ax_l_251 ax_t_251 242 2 40000 ax_p_251 ax_c_251_24 = true := by decide +kernel
set_option maxRecDepth 1000000 in
theorem ax_k_251_25 : ax_cr9 ax_w_251 ax_l_251 ax_t_251 242 2 40000 ax_p_251 ax_c_251_25 = true := by decide +kernel
set_option maxRecDepth 1000000 in
theorem ax_k_251_26 : ax_cr9 ax_w_251 ax_l_251 ax_t_251 242 2 40000 ax_p_251 ax_c_251_26 = true := by decide +kernel
set_option maxRecDepth 1000000 in
theorem ax_k_251_27 : ax_cr9 ax_w_251 ax_l_251 ax_t_251 242 2 40000 ax_p_251 ax_c_251_27 = true := by decide +kernel
set_option maxRecDepth 1000000 in
theorem ax_k_251_28 : ax_cr9 ax_w_251 ax_l_251 ax_t_251 242 2 40000 ax_p_251 ax_c_251_28 = true := by decide +kernel
set_option maxRecDepth 1000000 in
theorem ax_k_251_29 : ax_cr9 ax_w_251 ax_l_251 ax_t_251 242 2 40000 ax_p_251 ax_c_251_29 = true := by decide +kernel
set_option maxRecDepth 1000000 in
theorem ax_k_251_30 : ax_cr9 ax_w_251 ax_l_251 ax_t_251 242 2 40000 ax_p_251 ax_c_251_30 = true := by decide +kernel
set_option maxRecDepth 1000000 in
theorem ax_k_251_31 : ax_cr9 ax_w_251 ax_l_251 ax_t_251 242 2 40000 ax_p_251 ax_c_251_31 = true := by decide +kernel
set_option maxRecDepth 1000000 in
theorem ax_k_251_32 : ax_cr9 ax_w_251 ax_l_251 ax_t_251 242 2 40000 ax_p_251 ax_c_251_32 = true := by decide +kernel
set_option maxRecDepth 1000000 in
theorem ax_k_251_33 : ax_cr9 ax_w_251 ax_l_251 ax_t_251 242 2 40000 ax_p_251 ax_c_251_33 = true := by decide +kernel
set_option maxRecDepth 1000000 in
theorem ax_k_251_34 : ax_cr9 ax_w_251 ax_l_251 ax_t_251 242 2 40000 ax_p_251 ax_c_251_34 = true := by decide +kernel
set_option maxRecDepth 1000000 in
theorem ax_k_251_35 : ax_cr9 ax_w_251 ax_l_251 ax_t_251 242 2 40000 ax_p_251 ax_c_251_35 = true := by decide +kernel
set_option maxRecDepth 1000000 in
theorem ax_k_251_36 : ax_cr9 ax_w_251 ax_l_251 ax_t_251 242 2 40000 ax_p_251 ax_c_251_36 = true := by decide +kernel
set_option maxRecDepth 1000000 in
theorem ax_k_251_37 : ax_cr9 ax_w_251 ax_l_251 ax_t_251 242 2 40000 ax_p_251 ax_c_251_37 = true := by decide +kernel
set_option maxRecDepth 1000000 in
theorem ax_k_251_38 : ax_cr9 ax_w_251 ax_l_251 ax_t_251 242 2 40000 ax_p_251 ax_c_251_38 = true := by decide +kernel
set_option maxRecDepth 1000000 in
theorem ax_k_251_39 : ax_cr9 ax_w_251 ax_l_251 ax_t_251 242 2 40000 ax_p_251 ax_c_251_39 = true := by decide +kernel
set_option maxRecDepth 1000000 in
theorem ax_k_251_40 : ax_cr9 ax_w_251 ax_l_251 ax_t_251 242 2 40000 ax_p_251 ax_c_251_40 = true := by decide +kernel
set_option maxRecDepth 1000000 in
theorem ax_k_251_41 : ax_cr9 ax_w_251 ax_l_251 ax_t_251 242 2 40000 ax_p_251 ax_c_251_41 = true := by decide +kernel
set_option maxRecDepth 1000000 in
theorem ax_k_251_42 : ax_cr9 ax_w_251 ax_l_251 ax_t_251 242 2 40000 ax_p_251 ax_c_251_42 = true := by decide +kernel
set_option maxRecDepth 1000000 in
theorem ax_k_251_43 : ax_cr9 ax_w_251 ax_l_251 ax_t_251 242 2 40000 ax_p_251 ax_c_251_43 = true := by decide +kernel
set_option maxRecDepth 1000000 in
theorem ax_k_251_44 : ax_cr9 ax_w_251 ax_l_251 ax_t_251 242 2 40000 ax_p_251 ax_c_251_44 = true := by decide +kernel
set_option maxRecDepth 1000000 in
theorem ax_k_251_45 : ax_cr9 ax_w_251 ax_l_251 ax_t_251 242 2 40000 ax_p_251 ax_c_251_45 = true := by decide +kernel
set_option maxRecDepth 1000000 in
theorem ax_k_251_46 : ax_cr9 ax_w_251 ax_l_251 ax_t_251 242 2 40000 ax_p_251 ax_c_251_46 = true := by decide +kernel
set_option maxRecDepth 1000000 in
theorem ax_k_251_47 : ax_cr9 ax_w_251 ax_l_251 ax_t_251 242 2 40000 ax_p_251 ax_c_251_47 = true := by decide +kernel
set_option maxRecDepth 1000000 in
theorem ax_k_251_48 : ax_cr9 ax_w_251 ax_l_251 ax_t_251 242 2 40000 ax_p_251 ax_c_251_48 = true := by decide +kernel
set_option maxRecDepth 1000000 in
theorem ax_k_251_49 : ax_cr9 ax_w_251 ax_l_251 ax_t_251 242 2 40000 ax_p_251 ax_c_251_49 = true := by decide +kernel
set_option maxRecDepth 1000000 in
theorem ax_k_251_50 : ax_cr9 ax_w_251 ax_l_251 ax_t_251 242 2 40000 ax_p_251 ax_c_251_50 = true := by decide +kernel
set_option maxRecDepth 1000000 in
theorem ax_k_251_51 : ax_cr9 ax_w_251 ax_l_251 ax_t_251 242 2 40000 ax_p_251 ax_c_251_51 = true := by decide +kernel
set_option maxRecDepth 1000000 in
theorem ax_k_251_52 : ax_cr9 ax_w_251 ax_l_251 ax_t_251 242 2 40000 ax_p_251 ax_c_251_52 = true := by decide +kernel
set_option maxRecDepth 1000000 in
theorem ax_k_251_53 : ax_cr9 ax_w_251 ax_l_251 ax_t_251 242 2 40000 ax_p_251 ax_c_251_53 = true := by decide +kernel
set_option maxRecDepth 1000000 in
theorem ax_k_251_54 : ax_cr9 ax_w_251 ax_l_251 ax_t_251 242 2 40000 ax_p_251 ax_c_251_54 = true := by decide +kernel
set_option maxRecDepth 1000000 in
theorem ax_k_251_55 : ax_cr9 ax_w_251 ax_l_251 ax_t_251 242 2 40000 ax_p_251 ax_c_251_55 = true := by decide +kernel
set_option maxRecDepth 1000000 in
theorem ax_k_251_56 : ax_cr9 ax_w_251 ax_l_251 ax_t_251 242 2 40000 ax_p_251 ax_c_251_56 = true := by decide +kernel
set_option maxRecDepth 1000000 in
theorem ax_k_251_57 : ax_cr9 ax_w_251 ax_l_251 ax_t_251 242 2 40000 ax_p_251 ax_c_251_57 = true := by decide +kernel
set_option maxRecDepth 1000000 in
theorem ax_k_251_58 : ax_cr9 ax_w_251 ax_l_251 ax_t_251 242 2 40000 ax_p_251 ax_c_251_58 = true := by decide +kernel
set_option maxRecDepth 1000000 in
theorem ax_k_251_59 : ax_cr9 ax_w_251 ax_l_251 ax_t_251 242 2 40000 ax_p_251 ax_c_251_59 = true := by decide +kernel
set_option maxRecDepth 1000000 in
theorem ax_k_251_60 : ax_cr9 ax_w_251 ax_l_251 ax_t_251 242 2 40000 ax_p_251 ax_c_251_60 = true := by decide +kernel
set_option maxRecDepth 1000000 in
theorem ax_k_251_61 : ax_cr9 ax_w_251 ax_l_251 ax_t_251 242 2 40000 ax_p_251 ax_c_251_61 = true := by decide +kernel
set_option maxRecDepth 1000000 in
theorem ax_k_251_62 : ax_cr9 ax_w_251 ax_l_251 ax_t_251 242 2 40000 ax_p_251 ax_c_251_62 = true := by decide +kernel
set_option maxRecDepth 1000000 in
theorem ax_k_251_63 : ax_cr9 ax_w_251 ax_l_251 ax_t_251 242 2 40000 ax_p_251 ax_c_251_63 = true := by decide +kernel
set_option maxRecDepth 1000000 in
theorem ax_k_251_64 : ax_cr9 ax_w_251 ax_l_251 ax_t_251 242 2 40000 ax_p_251 ax_c_251_64 = true := by decide +kernel
set_option maxRecDepth 1000000 in
theorem ax_k_251_65 : ax_cr9 ax_w_251 ax_l_251 ax_t_251 242 2 40000 ax_p_251 ax_c_251_65 = true := by decide +kernel
set_option maxRecDepth 1000000 in
theorem ax_k_251_66 : ax_cr9 ax_w_251 ax_l_251 ax_t_251 242 2 40000 ax_p_251 ax_c_251_66 = true := by decide +kernel
set_option maxRecDepth 1000000 in
theorem ax_k_251_67 : ax_cr9 ax_w_251 ax_l_251 ax_t_251 242 2 40000 ax_p_251 ax_c_251_67 = true := by decide +kernel
set_option maxRecDepth 1000000 in
theorem ax_k_251_68 : ax_cr9 ax_w_251 ax_l_251 ax_t_251 242 2 40000 ax_p_251 ax_c_251_68 = true := by decide +kernel
set_option maxRecDepth 1000000 in
theorem ax_k_251_69 : ax_cr9 ax_w_251 ax_l_251 ax_t_251 242 2 40000 ax_p_251 ax_c_251_69 = true := by decide +kernel
set_option maxRecDepth 1000000 in
theorem ax_k_251_70 : ax_cr9 ax_w_251 ax_l_251 ax_t_251 242 2 40000 ax_p_251 ax_c_251_70 = true := by decide +kernel
set_option maxRecDepth 1000000 in
theorem ax_k_251_71 : ax_cr9 ax_w_251 ax_l_251 ax_t_251 242 2 40000 ax_p_251 ax_c_251_71 = true := by decide +kernel
set_option maxRecDepth 1000000 in
theorem ax_k_251_72 : ax_cr9 ax_w_251 ax_l_251 ax_t_251 242 2 40000 ax_p_251 ax_c_251_72 = true := by decide +kernel
set_option maxRecDepth 1000000 in
theorem ax_k_251_73 : ax_cr9 ax_w_251 ax_l_251 ax_t_251 242 2 40000 ax_p_251 ax_c_251_73 = true := by decide +kernel
set_option maxRecDepth 1000000 in
theorem ax_k_251_74 : ax_cr9 ax_w_251 ax_l_251 ax_t_251 242 2 40000 ax_p_251 ax_c_251_74 = true := by decide +kernel
set_option maxRecDepth 1000000 in
theorem ax_k_251_75 : ax_cr9 ax_w_251 ax_l_251 ax_t_251 242 2 40000 ax_p_251 ax_c_251_75 = true := by decide +kernel
set_option maxRecDepth 1000000 in
theorem ax_k_251_76 : ax_cr9 ax_w_251 ax_l_251 ax_t_251 242 2 40000 ax_p_251 ax_c_251_76 = true := by decide +kernel
set_option maxRecDepth 1000000 in
theorem ax_k_251_77 : ax_cr9 ax_w_251 ax_l_251 ax_t_251 242 2 40000 ax_p_251 ax_c_251_77 = true := by decide +kernel
set_option maxRecDepth 1000000 in
theorem ax_k_251_78 : ax_cr9 ax_w_251 ax_l_251 ax_t_251 242 2 40000 ax_p_251 ax_c_251_78 = true := by decide +kernel
set_option maxRecDepth 1000000 in
theorem ax_k_251_79 : ax_cr9 ax_w_251 ax_l_251 ax_t_251 242 2 40000 ax_p_251 ax_c_251_79 = true := by decide +kernel
set_option maxRecDepth 1000000 in
theorem ax_k_251_80 : ax_cr9 ax_w_251 ax_l_251 ax_t_251 242 2 40000 ax_p_251 ax_c_251_80 = true := by decide +kernel
set_option maxRecDepth 1000000 in
theorem ax_k_251_81 : ax_cr9 ax_w_251 ax_l_251 ax_t_251 242 2 40000 ax_p_251 ax_c_251_81 = true := by decide +kernel
set_option maxRecDepth 1000000 in
theorem ax_k_251_82 : ax_cr9 ax_w_251 ax_l_251 ax_t_251 242 2 40000 ax_p_251 ax_c_251_82 = true := by decide +kernel
set_option maxRecDepth 1000000 in
theorem ax_k_251_83 : ax_cr9 ax_w_251 ax_l_251 ax_t_251 242 2 40000 ax_p_251 ax_c_251_83 = true := by decide +kernel
set_option maxRecDepth 1000000 in
theorem ax_k_251_84 : ax_cr9 ax_w_251 ax_l_251 ax_t_251 242 2 40000 ax_p_251 ax_c_251_84 = true := by decide +kernel
set_option maxRecDepth 1000000 in
theorem ax_k_251_85 : ax_cr9 ax_w_251 ax_l_251 ax_t_251 242 2 40000 ax_p_251 ax_c_251_85 = true := by decide +kernel
set_option maxRecDepth 1000000 in
theorem ax_k_251_86 : ax_cr9 ax_w_251 ax_l_251 ax_t_251 242 2 40000 ax_p_251 ax_c_251_86 = true := by decide +kernel
set_option maxRecDepth 1000000 in
theorem ax_k_251_87 : ax_cr9 ax_w_251 ax_l_251 ax_t_251 242 2 40000 ax_p_251 ax_c_251_87 = true := by decide +kernel
set_option maxRecDepth 1000000 in
theorem ax_k_251_88 : ax_cr9 ax_w_251 ax_l_251 ax_t_251 242 2 40000 ax_p_251 ax_c_251_88 = true := by decide +kernel
set_option maxRecDepth 1000000 in
theorem ax_k_251_89 : ax_cr9 ax_w_251 ax_l_251 ax_t_251 242 2 40000 ax_p_251 ax_c_251_89 = true := by decide +kernel
set_option maxRecDepth 1000000 in
theorem ax_k_251_90 : ax_cr9 ax_w_251 ax_l_251 ax_t_251 242 2 40000 ax_p_251 ax_c_251_90 = true := by decide +kernel
set_option maxRecDepth 1000000 in
theorem ax_k_251_91 : ax_cr9 ax_w_251 ax_l_251 ax_t_251 242 2 40000 ax_p_251 ax_c_251_91 = true := by decide +kernel
set_option maxRecDepth 1000000 in
theorem ax_k_251_92 : ax_cr9 ax_w_251 ax_l_251 ax_t_251 242 2 40000 ax_p_251 ax_c_251_92 = true := by decide +kernel
set_option maxRecDepth 1000000 in
theorem ax_k_251_93 : ax_cr9 ax_w_251 ax_l_251 ax_t_251 242 2 40000 ax_p_251 ax_c_251_93 = true := by decide +kernel
set_option maxRecDepth 1000000 in
theorem ax_k_251_94 : ax_cr9 ax_w_251 ax_l_251 ax_t_251 242 2 40000 ax_p_251 ax_c_251_94 = true := by decide +kernel
set_option maxRecDepth 1000000 in
theorem ax_k_251_95 : ax_cr9 ax_w_251 ax_l_251 ax_t_251 242 2 40000 ax_p_251 ax_c_251_95 = true := by decide +kernel
set_option maxRecDepth 1000000 in
theorem ax_k_251_96 : ax_cr9 ax_w_251 ax_l_251 ax_t_251 242 2 40000 ax_p_251 ax_c_251_96 = true := by decide +kernel
set_option maxRecDepth 1000000 in
theorem ax_k_251_97 : ax_cr9 ax_w_251 ax_l_251 ax_t_251 242 2 40000 ax_p_251 ax_c_251_97 = true := by decide +kernel
set_option maxRecDepth 1000000 in
theorem ax_k_251_98 : ax_cr9 ax_w_251 ax_l_251 ax_t_251 242 2 40000 ax_p_251 ax_c_251_98 = true := by decide +kernel
set_option maxRecDepth 1000000 in
theorem ax_k_251_99 : ax_cr9 ax_w_251 ax_l_251 ax_t_251 242 2 40000 ax_p_251 ax_c_251_99 = true := by decide +kernel
set_option maxRecDepth 1000000 in
theorem ax_k_251_100 : ax_cr9 ax_w_251 ax_l_251 ax_t_251 242 2 40000 ax_p_251 ax_c_251_100 = true := by decide +kernel
set_option maxRecDepth 1000000 in
theorem ax_k_251_101 : ax_cr9 ax_w_251 ax_l_251 ax_t_251 242 2 40000 ax_p_251 ax_c_251_101 = true := by decide +kernel
set_option maxRecDepth 1000000 in
theorem ax_k_251_102 : ax_cr9 ax_w_251 ax_l_251 ax_t_251 242 2 40000 ax_p_251 ax_c_251_102 = true := by decide +kernel
set_option maxRecDepth 1000000 in
theorem ax_k_251_103 : ax_cr9 ax_w_251 ax_l_251 ax_t_251 242 2 40000 ax_p_251 ax_c_251_103 = true := by decide +kernel
set_option maxRecDepth 1000000 in
theorem ax_k_251_104 : ax_cr9 ax_w_251 ax_l_251 ax_t_251 242 2 40000 ax_p_251 ax_c_251_104 = true := by decide +kernel
set_option maxRecDepth 1000000 in
theorem ax_k_251_105 : ax_cr9 ax_w_251 ax_l_251 ax_t_251 242 2 40000 ax_p_251 ax_c_251_105 = true := by decide +kernel
set_option maxRecDepth 1000000 in
theorem ax_k_251_106 : ax_cr9 ax_w_251 ax_l_251 ax_t_251 242 2 40000 ax_p_251 ax_c_251_106 = true := by decide +kernel
set_option maxRecDepth 1000000 in
theorem ax_k_251_107 : ax_cr9 ax_w_251 ax_l_251 ax_t_251 242 2 40000 ax_p_251 ax_c_251_107 = true := by decide +kernel
set_option maxRecDepth 1000000 in
theorem ax_k_251_108 : ax_cr9 ax_w_251 ax_l_251 ax_t_251 242 2 40000 ax_p_251 ax_c_251_108 = true := by decide +kernel
set_option maxRecDepth 1000000 in
theorem ax_k_251_109 : ax_cr9 ax_w_251 ax_l_251 ax_t_251 242 2 40000 ax_p_251 ax_c_251_109 = true := by decide +kernel
set_option maxRecDepth 1000000 in
theorem ax_k_251_110 : ax_cr9 ax_w_251 ax_l_251 ax_t_251 242 2 40000 ax_p_251 ax_c_251_110 = true := by decide +kernel
set_option maxRecDepth 1000000 in
theorem ax_k_251_111 : ax_cr9 ax_w_251 ax_l_251 ax_t_251 242 2 40000 ax_p_251 ax_c_251_111 = true := by decide +kernel
set_option maxRecDepth 1000000 in
theorem ax_k_251_112 : ax_cr9 ax_w_251 ax_l_251 ax_t_251 242 2 40000 ax_p_251 ax_c_251_112 = true := by decide +kernel
set_option maxRecDepth 1000000 in
theorem ax_k_251_113 : ax_cr9 ax_w_251 ax_l_251 ax_t_251 242 2 40000 ax_p_251 ax_c_251_113 = true := by decide +kernel
set_option maxRecDepth 1000000 in
theorem ax_k_251_114 : ax_cr9 ax_w_251 ax_l_251 ax_t_251 242 2 40000 ax_p_251 ax_c_251_114 = true := by decide +kernel
set_option maxRecDepth 1000000 in
theorem ax_k_251_115 : ax_cr9 ax_w_251 ax_l_251 ax_t_251 242 2 40000 ax_p_251 ax_c_251_115 = true := by decide +kernel
set_option maxRecDepth 1000000 in
theorem ax_k_251_116 : ax_cr9 ax_w_251 ax_l_251 ax_t_251 242 2 40000 ax_p_251 ax_c_251_116 = true := by decide +kernel
set_option maxRecDepth 1000000 in
theorem ax_k_251_117 : ax_cr9 ax_w_251 ax_l_251 ax_t_251 242 2 40000 ax_p_251 ax_c_251_117 = true := by decide +kernel
set_option maxRecDepth 1000000 in
theorem ax_k_251_118 : ax_cr9 ax_w_251 ax_l_251 ax_t_251 242 2 40000 ax_p_251 ax_c_251_118 = true := by decide +kernel
set_option maxRecDepth 1000000 in
theorem ax_k_251_119 : ax_cr9 ax_w_251 ax_l_251 ax_t_251 242 2 40000 ax_p_251 ax_c_251_119 = true := by decide +kernel
set_option maxRecDepth 1000000 in
theorem ax_k_251_120 : ax_cr9 ax_w_251 ax_l_251 ax_t_251 242 2 40000 ax_p_251 ax_c_251_120 = true := by decide +kernel
set_option maxRecDepth 1000000 in
theorem ax_k_251_121 : ax_cr9 ax_w_251 ax_l_251 ax_t_251 242 2 40000 ax_p_251 ax_c_251_121 = true := by decide +kernel
set_option maxRecDepth 1000000 in
theorem ax_k_251_122 : ax_cr9 ax_w_251 ax_l_251 ax_t_251 242 2 40000 ax_p_251 ax_c_251_122 = true := by decide +kernel
set_option maxRecDepth 1000000 in
theorem ax_k_251_123 : ax_cr9 ax_w_251 ax_l_251 ax_t_251 242 2 40000 ax_p_251 ax_c_251_123 = true := by decide +kernel
set_option maxRecDepth 1000000 in
theorem ax_k_251_124 : ax_cr9 ax_w_251 ax_l_251 ax_t_251 242 2 40000 ax_p_251 ax_c_251_124 = true := by decide +kernel
set_option maxRecDepth 1000000 in
theorem ax_k_251_125 : ax_cr9 ax_w_251 ax_l_251 ax_t_251 242 2 40000 ax_p_251 ax_c_251_125 = true := by decide +kernel
set_option maxRecDepth 1000000 in
theorem ax_k_251_126 : ax_cr9 ax_w_251 ax_l_251 ax_t_251 242 2 40000 ax_p_251 ax_c_251_126 = true := by decide +kernel
set_option maxRecDepth 1000000 in
theorem ax_k_251_127 : ax_cr9 ax_w_251 ax_l_251 ax_t_251 242 2 40000 ax_p_251 ax_c_251_127 = true := by decide +kernel
set_option maxRecDepth 1000000 in
theorem ax_k_251_128 : ax_cr9 ax_w_251 ax_l_251 ax_t_251 242 2 40000 ax_p_251 ax_c_251_128 = true := by decide +kernel
set_option maxRecDepth 1000000 in
theorem ax_k_251_129 : ax_cr9 ax_w_251 ax_l_251 ax_t_251 242 2 40000 ax_p_251 ax_c_251_129 = true := by decide +kernel
set_option maxRecDepth 1000000 in
theorem ax_k_251_130 : ax_cr9 ax_w_251 ax_l_251 ax_t_251 242 2 40000 ax_p_251 ax_c_251_130 = true := by decide +kernel
set_option maxRecDepth 1000000 in
theorem ax_k_251_131 : ax_cr9 ax_w_251 ax_l_251 ax_t_251 242 2 40000 ax_p_251 ax_c_251_131 = true := by decide +kernel
set_option maxRecDepth 1000000 in
theorem ax_k_251_132 : ax_cr9 ax_w_251 ax_l_251 ax_t_251 242 2 40000 ax_p_251 ax_c_251_132 = true := by decide +kernel
set_option maxRecDepth 1000000 in
theorem ax_k_251_133 : ax_cr9 ax_w_251 ax_l_251 ax_t_251 242 2 40000 ax_p_251 ax_c_251_133 = true := by decide +kernel
set_option maxRecDepth 1000000 in
theorem ax_k_251_134 : ax_cr9 ax_w_251 ax_l_251 ax_t_251 242 2 40000 ax_p_251 ax_c_251_134 = true := by decide +kernel
set_option maxRecDepth 1000000 in
theorem ax_k_251_135 : ax_cr9 ax_w_251 ax_l_251 ax_t_251 242 2 40000 ax_p_251 ax_c_251_135 = true := by decide +kernel
set_option maxRecDepth 1000000 in
theorem ax_k_251_136 : ax_cr9 ax_w_251 ax_l_251 ax_t_251 242 2 40000 ax_p_251 ax_c_251_136 = true := by decide +kernel
set_option maxRecDepth 1000000 in
theorem ax_k_251_137 : ax_cr9 ax_w_251 ax_l_251 ax_t_251 242 2 40000 ax_p_251 ax_c_251_137 = true := by decide +kernel
set_option maxRecDepth 1000000 in
theorem ax_k_251_138 : ax_cr9 ax_w_251 ax_l_251 ax_t_251 242 2 40000 ax_p_251 ax_c_251_138 = true := by decide +kernel
set_option maxRecDepth 1000000 in
theorem ax_k_251_139 : ax_cr9 ax_w_251 ax_l_251 ax_t_251 242 2 40000 ax_p_251 ax_c_251_139 = true := by decide +kernel
set_option maxRecDepth 1000000 in
theorem ax_k_251_140 : ax_cr9 ax_w_251 ax_l_251 ax_t_251 242 2 40000 ax_p_251 ax_c_251_140 = true := by decide +kernel
set_option maxRecDepth 1000000 in
theorem ax_k_251_141 : ax_cr9 ax_w_251 ax_l_251 ax_t_251 242 2 40000 ax_p_251 ax_c_251_141 = true := by decide +kernel
set_option maxRecDepth 1000000 in
theorem ax_k_251_142 : ax_cr9 ax_w_251 ax_l_251 ax_t_251 242 2 40000 ax_p_251 ax_c_251_142 = true := by decide +kernel
set_option maxRecDepth 1000000 in
theorem ax_k_251_143 : ax_cr9 ax_w_251 ax_l_251 ax_t_251 242 2 40000 ax_p_251 ax_c_251_143 = true := by decide +kernel
set_option maxRecDepth 1000000 in
theorem ax_k_251_144 : ax_cr9 ax_w_251 ax_l_251 ax_t_251 242 2 40000 ax_p_251 ax_c_251_144 = true := by decide +kernel
set_option maxRecDepth 1000000 in
theorem ax_k_251_145 : ax_cr9 ax_w_251 ax_l_251 ax_t_251 242 2 40000 ax_p_251 ax_c_251_145 = true := by decide +kernel
set_option maxRecDepth 1000000 in
theorem ax_k_251_146 : ax_cr9 ax_w_251 ax_l_251 ax_t_251 242 2 40000 ax_p_251 ax_c_251_146 = true := by decide +kernel
set_option maxRecDepth 1000000 in
theorem ax_k_251_147 : ax_cr9 ax_w_251 ax_l_251 ax_t_251 242 2 40000 ax_p_251 ax_c_251_147 = true := by decide +kernel
set_option maxRecDepth 1000000 in
theorem ax_k_251_148 : ax_cr9 ax_w_251 ax_l_251 ax_t_251 242 2 40000 ax_p_251 ax_c_251_148 = true := by decide +kernel
set_option maxRecDepth 1000000 in
theorem ax_k_251_149 : ax_cr9 ax_w_251 ax_l_251 ax_t_251 242 2 40000 ax_p_251 ax_c_251_149 = true := by decide +kernel
set_option maxRecDepth 1000000 in
theorem ax_k_251_150 : ax_cr9 ax_w_251 ax_l_251 ax_t_251 242 2 40000 ax_p_251 ax_c_251_150 = true := by decide +kernel
set_option maxRecDepth 1000000 in
theorem ax_k_251_151 : ax_cr9 ax_w_251 ax_l_251 ax_t_251 242 2 40000 ax_p_251 ax_c_251_151 = true := by decide +kernel
set_option maxRecDepth 1000000 in
theorem ax_k_251_152 : ax_cr9 ax_w_251 ax_l_251 ax_t_251 242 2 40000 ax_p_251 ax_c_251_152 = true := by decide +kernel
set_option maxRecDepth 1000000 in
theorem ax_k_251_153 : ax_cr9 ax_w_251 ax_l_251 ax_t_251 242 2 40000 ax_p_251 ax_c_251_153 = true := by decide +kernel
set_option maxRecDepth 1000000 in
theorem ax_k_251_154 : ax_cr9 ax_w_251 ax_l_251 ax_t_251 242 2 40000 ax_p_251 ax_c_251_154 = true := by decide +kernel
set_option maxRecDepth 1000000 in
theorem ax_k_251_155 : ax_cr9 ax_w_251 ax_l_251 ax_t_251 242 2 40000 ax_p_251 ax_c_251_155 = true := by decide +kernel
set_option maxRecDepth 1000000 in
theorem ax_k_251_156 : ax_cr9 ax_w_251 ax_l_251 ax_t_251 242 2 40000 ax_p_251 ax_c_251_156 = true := by decide +kernel
set_option maxRecDepth 1000000 in
theorem ax_k_251_157 : ax_cr9 ax_w_251 ax_l_251 ax_t_251 242 2 40000 ax_p_251 ax_c_251_157 = true := by decide +kernel
set_option maxRecDepth 1000000 in
theorem ax_k_251_158 : ax_cr9 ax_w_251 ax_l_251 ax_t_251 242 2 40000 ax_p_251 ax_c_251_158 = true := by decide +kernel
set_option maxRecDepth 1000000 in
theorem ax_k_251_159 : ax_cr9 ax_w_251 ax_l_251 ax_t_251 242 2 40000 ax_p_251 ax_c_251_159 = true := by decide +kernel
set_option maxRecDepth 1000000 in
theorem ax_k_251_160 : ax_cr9 ax_w_251 ax_l_251 ax_t_251 242 2 40000 ax_p_251 ax_c_251_160 = true := by decide +kernel
set_option maxRecDepth 1000000 in
theorem ax_k_251_161 : ax_cr9 ax_w_251 ax_l_251 ax_t_251 242 2 40000 ax_p_251 ax_c_251_161 = true := by decide +kernel
set_option maxRecDepth 1000000 in
theorem ax_k_251_162 : ax_cr9 ax_w_251 ax_l_251 ax_t_251 242 2 40000 ax_p_251 ax_c_251_162 = true := by decide +kernel
theorem ax_y_251 {X : Nat × (Nat → Int32)} : ax_Y1 X ax_sp ax_rf ax_s_251 := ax_meth9 (c := ax_c_251_0) (T := ax_t_251) ax_Yn ⟨ax_k_251_0, ⟨ax_k_251_1, ⟨ax_k_251_2, ⟨ax_k_251_3, ⟨ax_k_251_4, ⟨ax_k_251_5, ⟨ax_k_251_6, ⟨ax_k_251_7, ⟨ax_k_251_8, ⟨ax_k_251_9, ⟨ax_k_251_10, ⟨ax_k_251_11, ⟨ax_k_251_12, ⟨ax_k_251_13, ⟨ax_k_251_14, ⟨ax_k_251_15, ⟨ax_k_251_16, ⟨ax_k_251_17, ⟨ax_k_251_18, ⟨ax_k_251_19, ⟨ax_k_251_20, ⟨ax_k_251_21, ⟨ax_k_251_22, ⟨ax_k_251_23, ⟨ax_k_251_24, ⟨ax_k_251_25, ⟨ax_k_251_26, ⟨ax_k_251_27, ⟨ax_k_251_28, ⟨ax_k_251_29, ⟨ax_k_251_30, ⟨ax_k_251_31, ⟨ax_k_251_32, ⟨ax_k_251_33, ⟨ax_k_251_34, ⟨ax_k_251_35, ⟨ax_k_251_36, ⟨ax_k_251_37, ⟨ax_k_251_38, ⟨ax_k_251_39, ⟨ax_k_251_40, ⟨ax_k_251_41, ⟨ax_k_251_42, ⟨ax_k_251_43, ⟨ax_k_251_44, ⟨ax_k_251_45, ⟨ax_k_251_46, ⟨ax_k_251_47, ⟨ax_k_251_48, ⟨ax_k_251_49, ⟨ax_k_251_50, ⟨ax_k_251_51, ⟨ax_k_251_52, ⟨ax_k_251_53, ⟨ax_k_251_54, ⟨ax_k_251_55, ⟨ax_k_251_56, ⟨ax_k_251_57, ⟨ax_k_251_58, ⟨ax_k_251_59, ⟨ax_k_251_60, ⟨ax_k_251_61, ⟨ax_k_251_62, ⟨ax_k_251_63, ⟨ax_k_251_64, ⟨ax_k_251_65, ⟨ax_k_251_66, ⟨ax_k_251_67, ⟨ax_k_251_68, ⟨ax_k_251_69, ⟨ax_k_251_70, ⟨ax_k_251_71, ⟨ax_k_251_72, ⟨ax_k_251_73, ⟨ax_k_251_74, ⟨ax_k_251_75, ⟨ax_k_251_76, ⟨ax_k_251_77, ⟨ax_k_251_78, ⟨ax_k_251_79, ⟨ax_k_251_80, ⟨ax_k_251_81, ⟨ax_k_251_82, ⟨ax_k_251_83, ⟨ax_k_251_84, ⟨ax_k_251_85, ⟨ax_k_251_86, ⟨ax_k_251_87, ⟨ax_k_251_88, ⟨ax_k_251_89, ⟨ax_k_251_90, ⟨ax_k_251_91, ⟨ax_k_251_92, ⟨ax_k_251_93, ⟨ax_k_251_94, ⟨ax_k_251_95, ⟨ax_k_251_96, ⟨ax_k_251_97, ⟨ax_k_251_98, ⟨ax_k_251_99, ⟨ax_k_251_100, ⟨ax_k_251_101, ⟨ax_k_251_102, ⟨ax_k_251_103, ⟨ax_k_251_104, ⟨ax_k_251_105, ⟨ax_k_251_106, ⟨ax_k_251_107, ⟨ax_k_251_108, ⟨ax_k_251_109, ⟨ax_k_251_110, ⟨ax_k_251_111, ⟨ax_k_251_112, ⟨ax_k_251_113, ⟨ax_k_251_114, ⟨ax_k_251_115, ⟨ax_k_251_116, ⟨ax_k_251_117, ⟨ax_k_251_118, ⟨ax_k_251_119, ⟨ax_k_251_120, ⟨ax_k_251_121, ⟨ax_k_251_122, ⟨ax_k_251_123, ⟨ax_k_251_124, ⟨ax_k_251_125, ⟨ax_k_251_126, ⟨ax_k_251_127, ⟨ax_k_251_128, ⟨ax_k_251_129, ⟨ax_k_251_130, ⟨ax_k_251_131, ⟨ax_k_251_132, ⟨ax_k_251_133, ⟨ax_k_251_134, ⟨ax_k_251_135, ⟨ax_k_251_136, ⟨ax_k_251_137, ⟨ax_k_251_138, ⟨ax_k_251_139, ⟨ax_k_251_140, ⟨ax_k_251_141, ⟨ax_k_251_142, ⟨ax_k_251_143, ⟨ax_k_251_144, ⟨ax_k_251_145, ⟨ax_k_251_146, ⟨ax_k_251_147, ⟨ax_k_251_148, ⟨ax_k_251_149, ⟨ax_k_251_150, ⟨ax_k_251_151, ⟨ax_k_251_152, ⟨ax_k_251_153, ⟨ax_k_251_154, ⟨ax_k_251_155, ⟨ax_k_251_156, ⟨ax_k_251_157, ⟨ax_k_251_158, ⟨ax_k_251_159, ⟨ax_k_251_160, ⟨ax_k_251_161, ⟨ax_k_251_162, trivial⟩⟩⟩⟩⟩⟩⟩⟩⟩⟩⟩⟩⟩⟩⟩⟩⟩⟩⟩⟩⟩⟩⟩⟩⟩⟩⟩⟩⟩⟩⟩⟩⟩⟩⟩⟩⟩⟩⟩⟩⟩⟩⟩⟩⟩⟩⟩⟩⟩⟩⟩⟩⟩⟩⟩⟩⟩⟩⟩⟩⟩⟩⟩⟩⟩⟩⟩⟩⟩⟩⟩⟩⟩⟩⟩⟩⟩⟩⟩⟩⟩⟩⟩⟩⟩⟩⟩⟩⟩⟩⟩⟩⟩⟩⟩⟩⟩⟩⟩⟩⟩⟩⟩⟩⟩⟩⟩⟩⟩⟩⟩⟩⟩⟩⟩⟩⟩⟩⟩⟩⟩⟩⟩⟩⟩⟩⟩⟩⟩⟩⟩⟩⟩⟩⟩⟩⟩⟩⟩⟩⟩⟩⟩⟩⟩⟩⟩⟩⟩⟩⟩⟩⟩⟩⟩⟩⟩⟩⟩⟩⟩⟩⟩ List.mem_cons_self rfl
/-! .weight ('weight', 0) -/
noncomputable def ax_c_252_0 : ax_ct := (0, (1, [((-2147483648), 2147483647)], [], [], []), [], [some (.ref 0), some (.retAddr 0), none], [(0, 1, .int 0)], [], [])
noncomputable def ax_t_252 : List ax_ct := [ax_c_252_0]
noncomputable def ax_w_252 : ax_D := ([], [])
noncomputable def ax_p_252 : ax_po := (some (some ((-15), 520)), [], false, false, [])
noncomputable def ax_s_252 : ax_s9 := (142, ax_sumc ax_sp ax_c_252_0 3, ax_w_252, ax_p_252)
noncomputable def ax_l_252 : ax_Y := [ax_s_2, ax_s_3]
set_option maxRecDepth 1000000 in
theorem ax_k_252_0 : ax_cr9 ax_w_252 ax_l_252 ax_t_252 142 3 40000 ax_p_252 ax_c_252_0 = true := by decide +kernel
theorem ax_y_252 {X : Nat × (Nat → Int32)} : ax_Y1 X ax_sp ax_rf ax_s_252 := ax_meth9 (c := ax_c_252_0) (T := ax_t_252) (ax_Yc ax_y_2 (ax_Yc ax_y_3 ax_Yn)) ⟨ax_k_252_0, trivial⟩ List.mem_cons_self rfl
/-! Model.weight ('weight', 0) -/
noncomputable def ax_c_253_0 : ax_ct := (0, (1, [((-2147483648), 2147483647)], [], [], []), [], [some (.ref 244), some (.retAddr 0), none, none], [(0, 1, .int 0)], [], [])
noncomputable def ax_t_253 : List ax_ct := [ax_c_253_0]
noncomputable def ax_w_253 : ax_D := ([], [])
noncomputable def ax_p_253 : ax_po := (some (some ((-15), 520)), [], false, false, [])
noncomputable def ax_s_253 : ax_s9 := (244, ax_sumc ax_sp ax_c_253_0 3, ax_w_253, ax_p_253)
noncomputable def ax_l_253 : ax_Y := [ax_s_7, ax_s_5]
set_option maxRecDepth 1000000 in
theorem ax_k_253_0 : ax_cr9 ax_w_253 ax_l_253 ax_t_253 244 3 40000 ax_p_253 ax_c_253_0 = true := by decide +kernel
theorem ax_y_253 {X : Nat × (Nat → Int32)} : ax_Y1 X ax_sp ax_rf ax_s_253 := ax_meth9 (c := ax_c_253_0) (T := ax_t_253) (ax_Yc ax_y_7 (ax_Yc ax_y_5 ax_Yn)) ⟨ax_k_253_0, trivial⟩ List.mem_cons_self rfl
/-! .toss ('toss', 0) -/
noncomputable def ax_c_254_0 : ax_ct := (0, (1, [((-2147483648), 2147483647)], [], [], []), [], [some (.ref 0), some (.retAddr 0), none], [(0, 1, .int 0)], [], [])
noncomputable def ax_t_254 : List ax_ct := [ax_c_254_0]
noncomputable def ax_w_254 : ax_D := ([], [])
noncomputable def ax_p_254 : ax_po := (some (some ((-15), 143)), [], false, false, [])
noncomputable def ax_s_254 : ax_s9 := (143, ax_sumc ax_sp ax_c_254_0 3, ax_w_254, ax_p_254)
noncomputable def ax_l_254 : ax_Y := []
set_option maxRecDepth 1000000 in
theorem ax_k_254_0 : ax_cr9 ax_w_254 ax_l_254 ax_t_254 143 3 40000 ax_p_254 ax_c_254_0 = true := by decide +kernel
theorem ax_y_254 {X : Nat × (Nat → Int32)} : ax_Y1 X ax_sp ax_rf ax_s_254 := ax_meth9 (c := ax_c_254_0) (T := ax_t_254) ax_Yn ⟨ax_k_254_0, trivial⟩ List.mem_cons_self rfl
/-! Model.toss ('toss', 0) -/
noncomputable def ax_c_255_0 : ax_ct := (0, (1, [((-2147483648), 2147483647)], [], [], []), [], [some (.ref 244), some (.retAddr 0)], [(0, 1, .int 0)], [], [])
noncomputable def ax_t_255 : List ax_ct := [ax_c_255_0]
noncomputable def ax_w_255 : ax_D := ([], [])
noncomputable def ax_p_255 : ax_po := (some (some ((-15), 143)), [], false, false, [])
noncomputable def ax_s_255 : ax_s9 := (245, ax_sumc ax_sp ax_c_255_0 3, ax_w_255, ax_p_255)
noncomputable def ax_l_255 : ax_Y := []
set_option maxRecDepth 1000000 in
theorem ax_k_255_0 : ax_cr9 ax_w_255 ax_l_255 ax_t_255 245 3 40000 ax_p_255 ax_c_255_0 = true := by decide +kernel
theorem ax_y_255 {X : Nat × (Nat → Int32)} : ax_Y1 X ax_sp ax_rf ax_s_255 := ax_meth9 (c := ax_c_255_0) (T := ax_t_255) ax_Yn ⟨ax_k_255_0, trivial⟩ List.mem_cons_self rfl
