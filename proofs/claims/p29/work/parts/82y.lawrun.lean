/-! the law: its checks, together -/
set_option maxRecDepth 100000 in
theorem ah_L_0 : rf_ALT cq_L_0 := rf_alt_inf [(109, [94], []), (110, [], [(0, 0, Int.ofNat 0), (0, 0, Int.ofNat 0), (0, 0, Int.ofNat 0), (0, 0, Int.ofNat 0), (0, 3, Int.ofNat 0), (0, 0, Int.ofNat 0), (0, 0, Int.ofNat 0)]), (189, [], [(0, 0, Int.ofNat 0), (0, 0, Int.ofNat 0), (0, 0, Int.ofNat 0), (0, 0, Int.ofNat 0), (0, 0, Int.ofNat 0)]), (110, [], [(0, 0, Int.ofNat 0), (0, 0, Int.ofNat 0), (0, 0, Int.ofNat 0), (0, 0, Int.ofNat 0), (0, 3, Int.ofNat 0), (0, 0, Int.ofNat 0), (0, 0, Int.ofNat 1)]), (189, [], [(0, 0, Int.ofNat 0), (0, 0, Int.ofNat 0), (0, 0, Int.ofNat 0), (0, 0, Int.ofNat 0), (0, 0, Int.ofNat 1)]), (110, [], [(0, 0, Int.ofNat 0), (0, 0, Int.ofNat 0), (0, 0, Int.ofNat 0), (0, 0, Int.ofNat 0), (0, 3, Int.ofNat 0), (0, 0, Int.ofNat 0), (0, 0, Int.ofNat 2)]), (189, [], [(0, 0, Int.ofNat 0), (0, 0, Int.ofNat 0), (0, 0, Int.ofNat 0), (0, 0, Int.ofNat 0), (0, 0, Int.ofNat 2)]), (110, [], [(0, 0, Int.ofNat 0), (0, 0, Int.ofNat 0), (0, 0, Int.ofNat 0), (0, 0, Int.ofNat 0), (0, 3, Int.ofNat 0), (0, 0, Int.ofNat 0), (0, 0, Int.ofNat 3)]), (189, [], [(0, 0, Int.ofNat 0), (0, 0, Int.ofNat 0), (0, 0, Int.ofNat 0), (0, 0, Int.ofNat 0), (0, 0, Int.ofNat 3)]), (110, [], [(0, 0, Int.ofNat 0), (0, 0, Int.ofNat 0), (0, 0, Int.ofNat 0), (0, 0, Int.ofNat 0), (0, 3, Int.ofNat 0), (0, 0, Int.ofNat 0), (0, 0, Int.ofNat 4)]), (189, [], [(0, 0, Int.ofNat 0), (0, 0, Int.ofNat 0), (0, 0, Int.ofNat 0), (0, 0, Int.ofNat 0), (0, 0, Int.ofNat 4)]), (110, [], [(0, 0, Int.ofNat 0), (0, 0, Int.ofNat 0), (0, 0, Int.ofNat 0), (0, 0, Int.ofNat 0), (0, 3, Int.ofNat 0), (0, 0, Int.ofNat 0), (0, 0, Int.ofNat 5)]), (189, [], [(0, 0, Int.ofNat 0), (0, 0, Int.ofNat 0), (0, 0, Int.ofNat 0), (0, 0, Int.ofNat 0), (0, 0, Int.ofNat 5)]), (229, [59], []), (230, [60], []), (231, [], [(0, 2, Int.ofNat 0), (0, 4, Int.ofNat 0), (0, 5, Int.ofNat 0), (0, 0, Int.ofNat 0), (0, 0, Int.ofNat 0), (0, 0, Int.ofNat 0), (0, 0, Int.ofNat 0)]), (315, [], [(0, 0, Int.ofNat 0), (0, 0, Int.ofNat 0), (0, 0, Int.ofNat 0), (0, 0, Int.ofNat 0), (0, 0, Int.ofNat 0)]), (204, [], [(0, 0, Int.ofNat 0)])] (by dsimp only [cq_L_0, al_L_0])
set_option maxRecDepth 100000 in
theorem ah_L_1 : rf_ALT cq_L_1 := rf_alt_self rfl
set_option maxRecDepth 100000 in
theorem ah_L_2 : rf_ALT cq_L_2 := rf_alt_self rfl
set_option maxRecDepth 100000 in
theorem ah_L_3 : rf_ALT cq_L_3 := rf_alt_inf [(198, [], [(0, 4, Int.ofNat 0), (0, 63, Int.ofNat 0)]), (198, [], [(0, 63, Int.ofNat 0), (0, 4, Int.ofNat 0)])] (by dsimp only [cq_L_3, al_L_3])
set_option maxRecDepth 100000 in
theorem ah_L_4 : rf_ALT cq_L_4 := rf_alt_inf [(198, [], [(0, 4, Int.ofNat 0), (0, 63, Int.ofNat 0)]), (198, [], [(0, 63, Int.ofNat 0), (0, 4, Int.ofNat 0)])] (by dsimp only [cq_L_4, al_L_4])
set_option maxRecDepth 100000 in
theorem ah_L_5 : rf_ALT cq_L_5 := rf_alt_inf [(198, [], [(0, 4, Int.ofNat 0), (0, 63, Int.ofNat 0)]), (198, [], [(0, 63, Int.ofNat 0), (0, 4, Int.ofNat 0)])] (by dsimp only [cq_L_5, al_L_5])
set_option maxRecDepth 100000 in
theorem ah_L_6 : rf_ALT cq_L_6 := rf_alt_inf [(198, [], [(0, 4, Int.ofNat 0), (0, 63, Int.ofNat 0)]), (198, [], [(0, 63, Int.ofNat 0), (0, 4, Int.ofNat 0)])] (by dsimp only [cq_L_6, al_L_6])
set_option maxRecDepth 100000 in
theorem ah_L_7 : rf_ALT cq_L_7 := rf_alt_inf [(198, [], [(0, 4, Int.ofNat 0), (0, 63, Int.ofNat 0)]), (198, [], [(0, 63, Int.ofNat 0), (0, 4, Int.ofNat 0)])] (by dsimp only [cq_L_7, al_L_7])
set_option maxRecDepth 100000 in
theorem ah_L_8 : rf_ALT cq_L_8 := rf_alt_inf [(198, [], [(0, 4, Int.ofNat 0), (0, 63, Int.ofNat 0)]), (198, [], [(0, 63, Int.ofNat 0), (0, 4, Int.ofNat 0)])] (by dsimp only [cq_L_8, al_L_8])
set_option maxRecDepth 100000 in
theorem ah_L_9 : rf_ALT cq_L_9 := rf_alt_inf [(198, [], [(0, 4, Int.ofNat 0), (0, 63, Int.ofNat 0)]), (198, [], [(0, 63, Int.ofNat 0), (0, 4, Int.ofNat 0)]), (322, [], [(0, 86, Int.ofNat 0), (0, 100, Int.ofNat 0), (0, 101, Int.ofNat 0), (0, 102, Int.ofNat 0), (0, 103, Int.ofNat 0), (0, 104, Int.ofNat 0), (0, 105, Int.ofNat 0), (0, 64, Int.ofNat 0), (0, 65, Int.ofNat 0), (0, 66, Int.ofNat 0), (0, 4, Int.ofNat 0), (0, 114, Int.ofNat 0), (0, 118, Int.ofNat 0), (0, 117, Int.ofNat 0), (0, 116, Int.ofNat 0), (0, 115, Int.ofNat 0), (0, 112, Int.ofNat 0), (0, 113, Int.ofNat 0), (0, 0, Int.ofNat 0), (0, 63, Int.ofNat 0)]), (313, [], [(0, 87, Int.ofNat 0), (0, 106, Int.ofNat 0), (0, 107, Int.ofNat 0), (0, 14, Int.ofNat 0), (0, 4, Int.ofNat 0), (0, 4, Int.ofNat 1)])] (by dsimp only [cq_L_9, al_L_9])
set_option maxRecDepth 100000 in
theorem ah_L_10 : rf_ALT cq_L_10 := rf_alt_inf [(198, [], [(0, 4, Int.ofNat 0), (0, 63, Int.ofNat 0)]), (198, [], [(0, 63, Int.ofNat 0), (0, 4, Int.ofNat 0)])] (by dsimp only [cq_L_10, al_L_10])
set_option maxRecDepth 100000 in
theorem ah_L_11 : rf_ALT cq_L_11 := rf_alt_self rfl
set_option maxRecDepth 100000 in
theorem ah_L_12 : rf_ALT cq_L_12 := rf_alt_inf [] (by dsimp only [cq_L_12, al_L_12])
set_option maxRecDepth 100000 in
theorem ah_L_13 : rf_ALT cq_L_13 := rf_alt_inf [] (by dsimp only [cq_L_13, al_L_13])
set_option maxRecDepth 100000 in
theorem ah_L_14 : rf_ALT cq_L_14 := rf_alt_inf [] (by dsimp only [cq_L_14, al_L_14])
set_option maxRecDepth 100000 in
theorem ah_L_15 : rf_ALT cq_L_15 := rf_alt_inf [] (by dsimp only [cq_L_15, al_L_15])
set_option maxRecDepth 100000 in
theorem ah_L_16 : rf_ALT cq_L_16 := rf_alt_inf [] (by dsimp only [cq_L_16, al_L_16])
set_option maxRecDepth 100000 in
theorem ah_L_17 : rf_ALT cq_L_17 := rf_alt_inf [] (by dsimp only [cq_L_17, al_L_17])
set_option maxRecDepth 100000 in
theorem ah_L_18 : rf_ALT cq_L_18 := rf_alt_inf [(220, [], [(0, 115, Int.ofNat 0), (0, 98, Int.ofNat 0), (0, 112, Int.ofNat 0), (0, 113, Int.ofNat 0), (0, 114, Int.ofNat 0), (0, 119, Int.ofNat 0), (0, 4, Int.ofNat 0), (0, 128, Int.ofNat 0), (0, 112, Int.ofNat 0), (0, 113, Int.ofNat 0), (0, 114, Int.ofNat 0), (0, 119, Int.ofNat 0), (0, 63, Int.ofNat 0)]), (199, [], [(0, 4, Int.ofNat 0), (0, 115, Int.ofNat 0), (0, 116, Int.ofNat 0), (0, 63, Int.ofNat 0), (0, 128, Int.ofNat 0), (0, 123, Int.ofNat 0)]), (198, [], [(0, 115, Int.ofNat 0), (0, 114, Int.ofNat 0)]), (198, [], [(0, 114, Int.ofNat 0), (0, 115, Int.ofNat 0)]), (341, [], [(0, 86, Int.ofNat 0), (0, 100, Int.ofNat 0), (0, 101, Int.ofNat 0), (0, 102, Int.ofNat 0), (0, 103, Int.ofNat 0), (0, 104, Int.ofNat 0), (0, 105, Int.ofNat 0), (0, 64, Int.ofNat 0), (0, 65, Int.ofNat 0), (0, 66, Int.ofNat 0), (0, 4, Int.ofNat 0), (0, 117, Int.ofNat 0), (0, 124, Int.ofNat 0), (0, 125, Int.ofNat 0), (0, 126, Int.ofNat 0), (0, 127, Int.ofNat 0), (0, 115, Int.ofNat 0), (0, 98, Int.ofNat 0), (0, 112, Int.ofNat 0), (0, 113, Int.ofNat 0), (0, 128, Int.ofNat 0), (0, 112, Int.ofNat 0), (0, 113, Int.ofNat 0), (0, 116, Int.ofNat 0), (0, 63, Int.ofNat 0)]), (349, [], [(0, 87, Int.ofNat 0), (0, 106, Int.ofNat 0), (0, 107, Int.ofNat 0), (0, 14, Int.ofNat 0), (0, 4, Int.ofNat 0), (0, 115, Int.ofNat 0), (0, 116, Int.ofNat 0)])] (by dsimp only [cq_L_18, al_L_18])
set_option maxRecDepth 100000 in
theorem ah_L_19 : rf_ALT cq_L_19 := rf_alt_inf [(220, [], [(0, 115, Int.ofNat 0), (0, 98, Int.ofNat 0), (0, 112, Int.ofNat 0), (0, 113, Int.ofNat 0), (0, 114, Int.ofNat 0), (0, 119, Int.ofNat 0), (0, 4, Int.ofNat 0), (0, 123, Int.ofNat 0), (0, 112, Int.ofNat 0), (0, 113, Int.ofNat 0), (0, 114, Int.ofNat 0), (0, 119, Int.ofNat 0), (0, 63, Int.ofNat 0)]), (199, [], [(0, 4, Int.ofNat 0), (0, 115, Int.ofNat 0), (0, 116, Int.ofNat 0), (0, 63, Int.ofNat 0), (0, 123, Int.ofNat 0), (0, 124, Int.ofNat 0)]), (198, [], [(0, 115, Int.ofNat 0), (0, 123, Int.ofNat 0)]), (198, [], [(0, 123, Int.ofNat 0), (0, 115, Int.ofNat 0)]), (341, [], [(0, 86, Int.ofNat 0), (0, 100, Int.ofNat 0), (0, 101, Int.ofNat 0), (0, 102, Int.ofNat 0), (0, 103, Int.ofNat 0), (0, 104, Int.ofNat 0), (0, 105, Int.ofNat 0), (0, 64, Int.ofNat 0), (0, 65, Int.ofNat 0), (0, 66, Int.ofNat 0), (0, 4, Int.ofNat 0), (0, 117, Int.ofNat 0), (0, 125, Int.ofNat 0), (0, 126, Int.ofNat 0), (0, 127, Int.ofNat 0), (0, 128, Int.ofNat 0), (0, 115, Int.ofNat 0), (0, 98, Int.ofNat 0), (0, 112, Int.ofNat 0), (0, 113, Int.ofNat 0), (0, 123, Int.ofNat 0), (0, 112, Int.ofNat 0), (0, 113, Int.ofNat 0), (0, 116, Int.ofNat 0), (0, 63, Int.ofNat 0)]), (349, [], [(0, 87, Int.ofNat 0), (0, 106, Int.ofNat 0), (0, 107, Int.ofNat 0), (0, 14, Int.ofNat 0), (0, 4, Int.ofNat 0), (0, 115, Int.ofNat 0), (0, 116, Int.ofNat 0)])] (by dsimp only [cq_L_19, al_L_19])
set_option maxRecDepth 100000 in
theorem ah_L_20 : rf_ALT cq_L_20 := rf_alt_inf [] (by dsimp only [cq_L_20, al_L_20])
set_option maxRecDepth 100000 in
theorem ah_L_21 : rf_ALT cq_L_21 := rf_alt_self rfl
set_option maxRecDepth 100000 in
theorem ah_L_22 : rf_ALT cq_L_22 := rf_alt_self rfl
set_option maxRecDepth 100000 in
theorem ah_L_23 : rf_ALT cq_L_23 := rf_alt_self rfl
set_option maxRecDepth 100000 in
theorem ah_L_24 : rf_ALT cq_L_24 := rf_alt_self rfl
set_option maxRecDepth 100000 in
theorem ah_L_25 : rf_ALT cq_L_25 := rf_alt_self rfl
set_option maxRecDepth 100000 in
theorem ah_L_26 : rf_ALT cq_L_26 := rf_alt_self rfl
set_option maxRecDepth 100000 in
theorem ah_L_27 : rf_ALT cq_L_27 := rf_alt_self rfl
set_option maxRecDepth 100000 in
theorem ah_L_28 : rf_ALT cq_L_28 := rf_alt_self rfl
set_option maxRecDepth 100000 in
theorem ah_L_29 : rf_ALT cq_L_29 := rf_alt_inf [] (by dsimp only [cq_L_29, al_L_29])
set_option maxRecDepth 100000 in
theorem ah_L_30 : rf_ALT cq_L_30 := rf_alt_inf [(319, [], [(0, 112, Int.ofNat 0), (0, 113, Int.ofNat 0), (0, 4, Int.ofNat 0), (0, 115, Int.ofNat 0), (0, 63, Int.ofNat 0), (0, 0, Int.ofNat 0)])] (by dsimp only [cq_L_30, al_L_30])
set_option maxRecDepth 100000 in
theorem ah_L_31 : rf_ALT cq_L_31 := rf_alt_inf [(318, [], [(0, 112, Int.ofNat 0), (0, 113, Int.ofNat 0), (0, 4, Int.ofNat 0), (0, 0, Int.negSucc 0), (0, 63, Int.ofNat 0), (0, 0, Int.ofNat 1)])] (by dsimp only [cq_L_31, al_L_31])
set_option maxRecDepth 100000 in
theorem ah_L_32 : rf_ALT cq_L_32 := rf_alt_inf [] (by dsimp only [cq_L_32, al_L_32])
set_option maxRecDepth 100000 in
theorem ah_L_33 : rf_ALT cq_L_33 := rf_alt_inf [(319, [], [(0, 112, Int.ofNat 0), (0, 113, Int.ofNat 0), (0, 4, Int.ofNat 0), (0, 120, Int.ofNat 0), (0, 63, Int.ofNat 0), (0, 0, Int.ofNat 0)])] (by dsimp only [cq_L_33, al_L_33])
set_option maxRecDepth 100000 in
theorem ah_L_34 : rf_ALT cq_L_34 := rf_alt_inf [(320, [], [(0, 113, Int.ofNat 0), (0, 114, Int.ofNat 0), (0, 0, Int.ofNat 0), (0, 0, Int.ofNat 1)])] (by dsimp only [cq_L_34, al_L_34])
set_option maxRecDepth 100000 in
theorem ah_L_35 : rf_ALT cq_L_35 := rf_alt_inf [(319, [], [(0, 112, Int.ofNat 0), (0, 113, Int.ofNat 0), (0, 4, Int.ofNat 0), (0, 116, Int.ofNat 0), (0, 63, Int.ofNat 0), (0, 0, Int.ofNat 0)])] (by dsimp only [cq_L_35, al_L_35])
set_option maxRecDepth 100000 in
theorem ah_L_36 : rf_ALT cq_L_36 := rf_alt_inf [(320, [], [(0, 113, Int.ofNat 0), (0, 114, Int.ofNat 0), (0, 0, Int.ofNat 0), (0, 0, Int.ofNat 1)])] (by dsimp only [cq_L_36, al_L_36])
set_option maxRecDepth 100000 in
theorem ah_L_37 : rf_ALT cq_L_37 := rf_alt_inf [(319, [], [(0, 112, Int.ofNat 0), (0, 113, Int.ofNat 0), (0, 4, Int.ofNat 0), (0, 120, Int.ofNat 0), (0, 63, Int.ofNat 0), (0, 0, Int.ofNat 0)])] (by dsimp only [cq_L_37, al_L_37])
set_option maxRecDepth 100000 in
theorem ah_L_38 : rf_ALT cq_L_38 := rf_alt_inf [(320, [], [(0, 113, Int.ofNat 0), (0, 114, Int.ofNat 0), (0, 0, Int.ofNat 0), (0, 0, Int.ofNat 1)])] (by dsimp only [cq_L_38, al_L_38])
set_option maxRecDepth 100000 in
theorem ah_L_39 : rf_ALT cq_L_39 := rf_alt_inf [(319, [], [(0, 112, Int.ofNat 0), (0, 113, Int.ofNat 0), (0, 4, Int.ofNat 0), (0, 120, Int.ofNat 0), (0, 63, Int.ofNat 0), (0, 0, Int.ofNat 0)])] (by dsimp only [cq_L_39, al_L_39])
set_option maxRecDepth 100000 in
theorem ah_L_40 : rf_ALT cq_L_40 := rf_alt_inf [(320, [], [(0, 113, Int.ofNat 0), (0, 114, Int.ofNat 0), (0, 0, Int.ofNat 0), (0, 0, Int.ofNat 1)])] (by dsimp only [cq_L_40, al_L_40])
set_option maxRecDepth 100000 in
theorem ah_L_41 : rf_ALT cq_L_41 := rf_alt_inf [(319, [], [(0, 112, Int.ofNat 0), (0, 113, Int.ofNat 0), (0, 4, Int.ofNat 0), (0, 120, Int.ofNat 0), (0, 63, Int.ofNat 0), (0, 0, Int.ofNat 0)])] (by dsimp only [cq_L_41, al_L_41])
set_option maxRecDepth 100000 in
theorem ah_L_42 : rf_ALT cq_L_42 := rf_alt_inf [(320, [], [(0, 113, Int.ofNat 0), (0, 114, Int.ofNat 0), (0, 0, Int.ofNat 0), (0, 0, Int.ofNat 1)])] (by dsimp only [cq_L_42, al_L_42])
set_option maxRecDepth 100000 in
theorem ah_L_43 : rf_ALT cq_L_43 := rf_alt_inf [(317, [], [(0, 86, Int.ofNat 0), (0, 100, Int.ofNat 0), (0, 101, Int.ofNat 0), (0, 102, Int.ofNat 0), (0, 103, Int.ofNat 0), (0, 104, Int.ofNat 0), (0, 105, Int.ofNat 0), (0, 64, Int.ofNat 0), (0, 65, Int.ofNat 0), (0, 66, Int.ofNat 0), (0, 4, Int.ofNat 0), (0, 112, Int.ofNat 0), (0, 113, Int.ofNat 0), (0, 120, Int.ofNat 0), (0, 115, Int.ofNat 0), (0, 121, Int.ofNat 0)]), (151, [], [(0, 115, Int.ofNat 0), (0, 114, Int.ofNat 0), (0, 114, Int.ofNat 0), (0, 121, Int.ofNat 0)])] (by dsimp only [cq_L_43, al_L_43])
set_option maxRecDepth 100000 in
theorem ah_L_44 : rf_ALT cq_L_44 := rf_alt_inf [(317, [], [(0, 86, Int.ofNat 0), (0, 100, Int.ofNat 0), (0, 101, Int.ofNat 0), (0, 102, Int.ofNat 0), (0, 103, Int.ofNat 0), (0, 104, Int.ofNat 0), (0, 105, Int.ofNat 0), (0, 64, Int.ofNat 0), (0, 65, Int.ofNat 0), (0, 66, Int.ofNat 0), (0, 4, Int.ofNat 0), (0, 112, Int.ofNat 0), (0, 113, Int.ofNat 0), (0, 116, Int.ofNat 0), (0, 115, Int.ofNat 0), (0, 117, Int.ofNat 0)]), (151, [], [(0, 115, Int.ofNat 0), (0, 114, Int.ofNat 0), (0, 114, Int.ofNat 0), (0, 117, Int.ofNat 0)])] (by dsimp only [cq_L_44, al_L_44])
set_option maxRecDepth 100000 in
theorem ah_L_45 : rf_ALT cq_L_45 := rf_alt_inf [(317, [], [(0, 86, Int.ofNat 0), (0, 100, Int.ofNat 0), (0, 101, Int.ofNat 0), (0, 102, Int.ofNat 0), (0, 103, Int.ofNat 0), (0, 104, Int.ofNat 0), (0, 105, Int.ofNat 0), (0, 64, Int.ofNat 0), (0, 65, Int.ofNat 0), (0, 66, Int.ofNat 0), (0, 4, Int.ofNat 0), (0, 112, Int.ofNat 0), (0, 113, Int.ofNat 0), (0, 116, Int.ofNat 0), (0, 115, Int.ofNat 0), (0, 117, Int.ofNat 0)]), (151, [], [(0, 115, Int.ofNat 0), (0, 114, Int.ofNat 0), (0, 114, Int.ofNat 0), (0, 117, Int.ofNat 0)])] (by dsimp only [cq_L_45, al_L_45])
set_option maxRecDepth 100000 in
theorem ah_L_46 : rf_ALT cq_L_46 := rf_alt_inf [(318, [], [(0, 112, Int.ofNat 0), (0, 113, Int.ofNat 0), (0, 4, Int.ofNat 0), (0, 0, Int.negSucc 0), (0, 63, Int.ofNat 0), (0, 0, Int.ofNat 1)])] (by dsimp only [cq_L_46, al_L_46])
set_option maxRecDepth 100000 in
theorem ah_L_47 : rf_ALT cq_L_47 := rf_alt_inf [(318, [], [(0, 112, Int.ofNat 0), (0, 113, Int.ofNat 0), (0, 4, Int.ofNat 0), (0, 0, Int.negSucc 0), (0, 63, Int.ofNat 0), (0, 0, Int.ofNat 1)])] (by dsimp only [cq_L_47, al_L_47])
set_option maxRecDepth 100000 in
theorem ah_L_48 : rf_ALT cq_L_48 := rf_alt_inf [(317, [], [(0, 86, Int.ofNat 0), (0, 100, Int.ofNat 0), (0, 101, Int.ofNat 0), (0, 102, Int.ofNat 0), (0, 103, Int.ofNat 0), (0, 104, Int.ofNat 0), (0, 105, Int.ofNat 0), (0, 64, Int.ofNat 0), (0, 65, Int.ofNat 0), (0, 66, Int.ofNat 0), (0, 4, Int.ofNat 0), (0, 112, Int.ofNat 0), (0, 113, Int.ofNat 0), (0, 120, Int.ofNat 0), (0, 115, Int.ofNat 0), (0, 121, Int.ofNat 0)]), (321, [], [(0, 86, Int.ofNat 0), (0, 100, Int.ofNat 0), (0, 101, Int.ofNat 0), (0, 102, Int.ofNat 0), (0, 103, Int.ofNat 0), (0, 104, Int.ofNat 0), (0, 105, Int.ofNat 0), (0, 64, Int.ofNat 0), (0, 65, Int.ofNat 0), (0, 66, Int.ofNat 0), (0, 4, Int.ofNat 0), (0, 112, Int.ofNat 0), (0, 113, Int.ofNat 0), (0, 120, Int.ofNat 0), (0, 114, Int.ofNat 0), (0, 116, Int.ofNat 0), (0, 114, Int.ofNat 0), (0, 125, Int.ofNat 0), (0, 126, Int.ofNat 0), (0, 127, Int.ofNat 0), (0, 128, Int.ofNat 0), (0, 129, Int.ofNat 0), (0, 130, Int.ofNat 0), (0, 122, Int.ofNat 0), (0, 123, Int.ofNat 0), (0, 124, Int.ofNat 0)]), (312, [], [(0, 87, Int.ofNat 0), (0, 106, Int.ofNat 0), (0, 107, Int.ofNat 0), (0, 14, Int.ofNat 0), (0, 4, Int.ofNat 0), (0, 119, Int.ofNat 0), (0, 131, Int.ofNat 0), (0, 132, Int.ofNat 0), (0, 13, Int.ofNat 0), (0, 120, Int.ofNat 0), (0, 113, Int.ofNat 0), (0, 112, Int.ofNat 0)]), (342, [], [(0, 118, Int.ofNat 0), (0, 133, Int.ofNat 0), (0, 88, Int.ofNat 0), (0, 88, Int.ofNat 0), (0, 13, Int.ofNat 0), (0, 13, Int.ofNat 0), (0, 115, Int.ofNat 0), (0, 121, Int.ofNat 0)]), (343, [68], [(0, 118, Int.ofNat 0), (0, 133, Int.ofNat 0)]), (342, [], [(0, 117, Int.ofNat 0), (0, 134, Int.ofNat 0), (0, 89, Int.ofNat 0), (0, 89, Int.ofNat 0), (0, 13, Int.ofNat 0), (0, 13, Int.ofNat 0), (0, 114, Int.ofNat 0), (0, 114, Int.ofNat 0)]), (343, [69], [(0, 117, Int.ofNat 0), (0, 134, Int.ofNat 0)]), (204, [], [(0, 13, Int.ofNat 1)])] (by dsimp only [cq_L_48, al_L_48])
set_option maxRecDepth 100000 in
theorem ah_L_49 : rf_ALT cq_L_49 := rf_alt_inf [(320, [], [(0, 113, Int.ofNat 0), (0, 114, Int.ofNat 0), (0, 0, Int.ofNat 1), (0, 0, Int.ofNat 0)])] (by dsimp only [cq_L_49, al_L_49])
set_option maxRecDepth 100000 in
theorem ah_L_50 : rf_ALT cq_L_50 := rf_alt_inf [(320, [], [(0, 113, Int.ofNat 0), (0, 114, Int.ofNat 0), (0, 0, Int.ofNat 1), (0, 0, Int.ofNat 0)])] (by dsimp only [cq_L_50, al_L_50])
set_option maxRecDepth 100000 in
theorem ah_L_51 : rf_ALT cq_L_51 := rf_alt_inf [(317, [], [(0, 86, Int.ofNat 0), (0, 100, Int.ofNat 0), (0, 101, Int.ofNat 0), (0, 102, Int.ofNat 0), (0, 103, Int.ofNat 0), (0, 104, Int.ofNat 0), (0, 105, Int.ofNat 0), (0, 64, Int.ofNat 0), (0, 65, Int.ofNat 0), (0, 66, Int.ofNat 0), (0, 4, Int.ofNat 0), (0, 112, Int.ofNat 0), (0, 113, Int.ofNat 0), (0, 120, Int.ofNat 0), (0, 115, Int.ofNat 0), (0, 124, Int.ofNat 0)]), (151, [], [(0, 115, Int.ofNat 0), (0, 114, Int.ofNat 0), (0, 114, Int.ofNat 0), (0, 124, Int.ofNat 0)])] (by dsimp only [cq_L_51, al_L_51])
set_option maxRecDepth 100000 in
theorem ah_L_52 : rf_ALT cq_L_52 := rf_alt_inf [(317, [], [(0, 86, Int.ofNat 0), (0, 100, Int.ofNat 0), (0, 101, Int.ofNat 0), (0, 102, Int.ofNat 0), (0, 103, Int.ofNat 0), (0, 104, Int.ofNat 0), (0, 105, Int.ofNat 0), (0, 64, Int.ofNat 0), (0, 65, Int.ofNat 0), (0, 66, Int.ofNat 0), (0, 4, Int.ofNat 0), (0, 112, Int.ofNat 0), (0, 113, Int.ofNat 0), (0, 120, Int.ofNat 0), (0, 115, Int.ofNat 0), (0, 124, Int.ofNat 0)]), (321, [], [(0, 86, Int.ofNat 0), (0, 100, Int.ofNat 0), (0, 101, Int.ofNat 0), (0, 102, Int.ofNat 0), (0, 103, Int.ofNat 0), (0, 104, Int.ofNat 0), (0, 105, Int.ofNat 0), (0, 64, Int.ofNat 0), (0, 65, Int.ofNat 0), (0, 66, Int.ofNat 0), (0, 4, Int.ofNat 0), (0, 112, Int.ofNat 0), (0, 113, Int.ofNat 0), (0, 120, Int.ofNat 0), (0, 114, Int.ofNat 0), (0, 116, Int.ofNat 0), (0, 114, Int.ofNat 0), (0, 128, Int.ofNat 0), (0, 129, Int.ofNat 0), (0, 130, Int.ofNat 0), (0, 131, Int.ofNat 0), (0, 132, Int.ofNat 0), (0, 133, Int.ofNat 0), (0, 125, Int.ofNat 0), (0, 126, Int.ofNat 0), (0, 127, Int.ofNat 0)]), (311, [], [(0, 87, Int.ofNat 0), (0, 106, Int.ofNat 0), (0, 107, Int.ofNat 0), (0, 14, Int.ofNat 0), (0, 4, Int.ofNat 0), (0, 123, Int.ofNat 0), (0, 141, Int.ofNat 0), (0, 140, Int.ofNat 0), (0, 0, Int.ofNat 39), (0, 142, Int.ofNat 0), (0, 142, Int.ofNat 0), (0, 13, Int.ofNat 0)]), (310, [], [(0, 122, Int.ofNat 0), (0, 139, Int.ofNat 0), (0, 88, Int.ofNat 0), (0, 88, Int.ofNat 0), (0, 0, Int.ofNat 0), (0, 0, Int.ofNat 1), (0, 0, Int.ofNat 39), (0, 0, Int.ofNat 0), (0, 0, Int.ofNat 1), (0, 142, Int.ofNat 0)]), (310, [], [(0, 121, Int.ofNat 0), (0, 138, Int.ofNat 0), (0, 89, Int.ofNat 0), (0, 89, Int.ofNat 0), (0, 0, Int.ofNat 0), (0, 0, Int.ofNat 1), (0, 0, Int.ofNat 39), (0, 0, Int.ofNat 0), (0, 0, Int.ofNat 1), (0, 142, Int.ofNat 0)]), (312, [], [(0, 123, Int.ofNat 0), (0, 141, Int.ofNat 0), (0, 140, Int.ofNat 0), (0, 0, Int.ofNat 39), (0, 4, Int.ofNat 0), (0, 119, Int.ofNat 0), (0, 134, Int.ofNat 0), (0, 135, Int.ofNat 0), (0, 13, Int.negSucc 0), (0, 120, Int.ofNat 0), (0, 113, Int.ofNat 0), (0, 112, Int.ofNat 0)]), (342, [], [(0, 118, Int.ofNat 0), (0, 136, Int.ofNat 0), (0, 122, Int.ofNat 0), (0, 139, Int.ofNat 0), (0, 13, Int.negSucc 0), (0, 13, Int.negSucc 0), (0, 115, Int.ofNat 0), (0, 124, Int.ofNat 0)]), (343, [68], [(0, 118, Int.ofNat 0), (0, 136, Int.ofNat 0)]), (342, [], [(0, 117, Int.ofNat 0), (0, 137, Int.ofNat 0), (0, 121, Int.ofNat 0), (0, 138, Int.ofNat 0), (0, 13, Int.negSucc 0), (0, 13, Int.negSucc 0), (0, 114, Int.ofNat 0), (0, 114, Int.ofNat 0)]), (343, [69], [(0, 117, Int.ofNat 0), (0, 137, Int.ofNat 0)]), (204, [], [(0, 13, Int.ofNat 0)])] (by dsimp only [cq_L_52, al_L_52])
set_option maxRecDepth 100000 in
theorem ah_L_53 : rf_ALT cq_L_53 := rf_alt_inf [(317, [], [(0, 86, Int.ofNat 0), (0, 100, Int.ofNat 0), (0, 101, Int.ofNat 0), (0, 102, Int.ofNat 0), (0, 103, Int.ofNat 0), (0, 104, Int.ofNat 0), (0, 105, Int.ofNat 0), (0, 64, Int.ofNat 0), (0, 65, Int.ofNat 0), (0, 66, Int.ofNat 0), (0, 4, Int.ofNat 0), (0, 112, Int.ofNat 0), (0, 113, Int.ofNat 0), (0, 120, Int.ofNat 0), (0, 115, Int.ofNat 0), (0, 121, Int.ofNat 0)]), (151, [], [(0, 114, Int.ofNat 0), (0, 115, Int.ofNat 0), (0, 121, Int.ofNat 0), (0, 114, Int.ofNat 0)])] (by dsimp only [cq_L_53, al_L_53])
set_option maxRecDepth 100000 in
theorem ah_L_54 : rf_ALT cq_L_54 := rf_alt_inf [(317, [], [(0, 86, Int.ofNat 0), (0, 100, Int.ofNat 0), (0, 101, Int.ofNat 0), (0, 102, Int.ofNat 0), (0, 103, Int.ofNat 0), (0, 104, Int.ofNat 0), (0, 105, Int.ofNat 0), (0, 64, Int.ofNat 0), (0, 65, Int.ofNat 0), (0, 66, Int.ofNat 0), (0, 4, Int.ofNat 0), (0, 112, Int.ofNat 0), (0, 113, Int.ofNat 0), (0, 116, Int.ofNat 0), (0, 115, Int.ofNat 0), (0, 117, Int.ofNat 0)])] (by dsimp only [cq_L_54, al_L_54])
set_option maxRecDepth 100000 in
theorem ah_L_55 : rf_ALT cq_L_55 := rf_alt_inf [(318, [], [(0, 112, Int.ofNat 0), (0, 113, Int.ofNat 0), (0, 4, Int.ofNat 0), (0, 0, Int.negSucc 0), (0, 63, Int.ofNat 0), (0, 0, Int.ofNat 1)])] (by dsimp only [cq_L_55, al_L_55])
set_option maxRecDepth 100000 in
theorem ah_L_56 : rf_ALT cq_L_56 := rf_alt_inf [(320, [], [(0, 113, Int.ofNat 0), (0, 114, Int.ofNat 0), (0, 0, Int.ofNat 1), (0, 0, Int.ofNat 0)])] (by dsimp only [cq_L_56, al_L_56])
set_option maxRecDepth 100000 in
theorem ah_L_57 : rf_ALT cq_L_57 := rf_alt_inf [(317, [], [(0, 86, Int.ofNat 0), (0, 100, Int.ofNat 0), (0, 101, Int.ofNat 0), (0, 102, Int.ofNat 0), (0, 103, Int.ofNat 0), (0, 104, Int.ofNat 0), (0, 105, Int.ofNat 0), (0, 64, Int.ofNat 0), (0, 65, Int.ofNat 0), (0, 66, Int.ofNat 0), (0, 4, Int.ofNat 0), (0, 112, Int.ofNat 0), (0, 113, Int.ofNat 0), (0, 120, Int.ofNat 0), (0, 115, Int.ofNat 0), (0, 121, Int.ofNat 0)]), (151, [], [(0, 115, Int.ofNat 0), (0, 114, Int.ofNat 0), (0, 114, Int.ofNat 0), (0, 121, Int.ofNat 0)])] (by dsimp only [cq_L_57, al_L_57])
set_option maxRecDepth 100000 in
theorem ah_L_58 : rf_ALT cq_L_58 := rf_alt_inf [(317, [], [(0, 86, Int.ofNat 0), (0, 100, Int.ofNat 0), (0, 101, Int.ofNat 0), (0, 102, Int.ofNat 0), (0, 103, Int.ofNat 0), (0, 104, Int.ofNat 0), (0, 105, Int.ofNat 0), (0, 64, Int.ofNat 0), (0, 65, Int.ofNat 0), (0, 66, Int.ofNat 0), (0, 4, Int.ofNat 0), (0, 112, Int.ofNat 0), (0, 113, Int.ofNat 0), (0, 120, Int.ofNat 0), (0, 115, Int.ofNat 0), (0, 124, Int.ofNat 0)]), (151, [], [(0, 114, Int.ofNat 0), (0, 115, Int.ofNat 0), (0, 124, Int.ofNat 0), (0, 114, Int.ofNat 0)])] (by dsimp only [cq_L_58, al_L_58])
set_option maxRecDepth 100000 in
theorem ah_L_59 : rf_ALT cq_L_59 := rf_alt_inf [(317, [], [(0, 86, Int.ofNat 0), (0, 100, Int.ofNat 0), (0, 101, Int.ofNat 0), (0, 102, Int.ofNat 0), (0, 103, Int.ofNat 0), (0, 104, Int.ofNat 0), (0, 105, Int.ofNat 0), (0, 64, Int.ofNat 0), (0, 65, Int.ofNat 0), (0, 66, Int.ofNat 0), (0, 4, Int.ofNat 0), (0, 112, Int.ofNat 0), (0, 113, Int.ofNat 0), (0, 120, Int.ofNat 0), (0, 115, Int.ofNat 0), (0, 124, Int.ofNat 0)]), (151, [], [(0, 115, Int.ofNat 0), (0, 114, Int.ofNat 0), (0, 114, Int.ofNat 0), (0, 124, Int.ofNat 0)])] (by dsimp only [cq_L_59, al_L_59])
set_option maxRecDepth 100000 in
theorem ah_L_60 : rf_ALT cq_L_60 := rf_alt_inf [(318, [], [(0, 112, Int.ofNat 0), (0, 113, Int.ofNat 0), (0, 4, Int.ofNat 0), (0, 0, Int.negSucc 0), (0, 63, Int.ofNat 0), (0, 0, Int.ofNat 1)])] (by dsimp only [cq_L_60, al_L_60])
set_option maxRecDepth 100000 in
theorem ah_L_61 : rf_ALT cq_L_61 := rf_alt_inf [(318, [], [(0, 112, Int.ofNat 0), (0, 113, Int.ofNat 0), (0, 4, Int.ofNat 0), (0, 0, Int.negSucc 0), (0, 63, Int.ofNat 0), (0, 0, Int.ofNat 1)])] (by dsimp only [cq_L_61, al_L_61])
set_option maxRecDepth 100000 in
theorem ah_L_62 : rf_ALT cq_L_62 := rf_alt_inf [(317, [], [(0, 86, Int.ofNat 0), (0, 100, Int.ofNat 0), (0, 101, Int.ofNat 0), (0, 102, Int.ofNat 0), (0, 103, Int.ofNat 0), (0, 104, Int.ofNat 0), (0, 105, Int.ofNat 0), (0, 64, Int.ofNat 0), (0, 65, Int.ofNat 0), (0, 66, Int.ofNat 0), (0, 4, Int.ofNat 0), (0, 112, Int.ofNat 0), (0, 113, Int.ofNat 0), (0, 120, Int.ofNat 0), (0, 115, Int.ofNat 0), (0, 121, Int.ofNat 0)]), (321, [], [(0, 86, Int.ofNat 0), (0, 100, Int.ofNat 0), (0, 101, Int.ofNat 0), (0, 102, Int.ofNat 0), (0, 103, Int.ofNat 0), (0, 104, Int.ofNat 0), (0, 105, Int.ofNat 0), (0, 64, Int.ofNat 0), (0, 65, Int.ofNat 0), (0, 66, Int.ofNat 0), (0, 4, Int.ofNat 0), (0, 112, Int.ofNat 0), (0, 113, Int.ofNat 0), (0, 120, Int.ofNat 0), (0, 114, Int.ofNat 0), (0, 116, Int.ofNat 0), (0, 114, Int.ofNat 0), (0, 125, Int.ofNat 0), (0, 126, Int.ofNat 0), (0, 127, Int.ofNat 0), (0, 128, Int.ofNat 0), (0, 129, Int.ofNat 0), (0, 130, Int.ofNat 0), (0, 122, Int.ofNat 0), (0, 123, Int.ofNat 0), (0, 124, Int.ofNat 0)]), (312, [], [(0, 87, Int.ofNat 0), (0, 106, Int.ofNat 0), (0, 107, Int.ofNat 0), (0, 14, Int.ofNat 0), (0, 4, Int.ofNat 0), (0, 119, Int.ofNat 0), (0, 131, Int.ofNat 0), (0, 132, Int.ofNat 0), (0, 13, Int.ofNat 0), (0, 120, Int.ofNat 0), (0, 113, Int.ofNat 0), (0, 112, Int.ofNat 0)]), (342, [], [(0, 118, Int.ofNat 0), (0, 133, Int.ofNat 0), (0, 88, Int.ofNat 0), (0, 88, Int.ofNat 0), (0, 13, Int.ofNat 0), (0, 13, Int.ofNat 0), (0, 115, Int.ofNat 0), (0, 121, Int.ofNat 0)]), (343, [68], [(0, 118, Int.ofNat 0), (0, 133, Int.ofNat 0)]), (342, [], [(0, 117, Int.ofNat 0), (0, 134, Int.ofNat 0), (0, 89, Int.ofNat 0), (0, 89, Int.ofNat 0), (0, 13, Int.ofNat 0), (0, 13, Int.ofNat 0), (0, 114, Int.ofNat 0), (0, 114, Int.ofNat 0)]), (343, [69], [(0, 117, Int.ofNat 0), (0, 134, Int.ofNat 0)]), (204, [], [(0, 13, Int.ofNat 1)])] (by dsimp only [cq_L_62, al_L_62])
set_option maxRecDepth 100000 in
theorem ah_L_63 : rf_ALT cq_L_63 := rf_alt_inf [(317, [], [(0, 86, Int.ofNat 0), (0, 100, Int.ofNat 0), (0, 101, Int.ofNat 0), (0, 102, Int.ofNat 0), (0, 103, Int.ofNat 0), (0, 104, Int.ofNat 0), (0, 105, Int.ofNat 0), (0, 64, Int.ofNat 0), (0, 65, Int.ofNat 0), (0, 66, Int.ofNat 0), (0, 4, Int.ofNat 0), (0, 112, Int.ofNat 0), (0, 113, Int.ofNat 0), (0, 116, Int.ofNat 0), (0, 115, Int.ofNat 0), (0, 117, Int.ofNat 0)]), (151, [], [(0, 114, Int.ofNat 0), (0, 115, Int.ofNat 0), (0, 117, Int.ofNat 0), (0, 114, Int.ofNat 0)])] (by dsimp only [cq_L_63, al_L_63])
set_option maxRecDepth 100000 in
theorem ah_L_64 : rf_ALT cq_L_64 := rf_alt_inf [(317, [], [(0, 86, Int.ofNat 0), (0, 100, Int.ofNat 0), (0, 101, Int.ofNat 0), (0, 102, Int.ofNat 0), (0, 103, Int.ofNat 0), (0, 104, Int.ofNat 0), (0, 105, Int.ofNat 0), (0, 64, Int.ofNat 0), (0, 65, Int.ofNat 0), (0, 66, Int.ofNat 0), (0, 4, Int.ofNat 0), (0, 112, Int.ofNat 0), (0, 113, Int.ofNat 0), (0, 116, Int.ofNat 0), (0, 115, Int.ofNat 0), (0, 117, Int.ofNat 0)]), (151, [], [(0, 114, Int.ofNat 0), (0, 115, Int.ofNat 0), (0, 117, Int.ofNat 0), (0, 114, Int.ofNat 0)])] (by dsimp only [cq_L_64, al_L_64])
set_option maxRecDepth 100000 in
theorem ah_L_65 : rf_ALT cq_L_65 := rf_alt_inf [(320, [], [(0, 113, Int.ofNat 0), (0, 114, Int.ofNat 0), (0, 0, Int.ofNat 1), (0, 0, Int.ofNat 0)])] (by dsimp only [cq_L_65, al_L_65])
set_option maxRecDepth 100000 in
theorem ah_L_66 : rf_ALT cq_L_66 := rf_alt_inf [(320, [], [(0, 113, Int.ofNat 0), (0, 114, Int.ofNat 0), (0, 0, Int.ofNat 1), (0, 0, Int.ofNat 0)])] (by dsimp only [cq_L_66, al_L_66])
set_option maxRecDepth 100000 in
theorem ah_L_67 : rf_ALT cq_L_67 := rf_alt_inf [(317, [], [(0, 86, Int.ofNat 0), (0, 100, Int.ofNat 0), (0, 101, Int.ofNat 0), (0, 102, Int.ofNat 0), (0, 103, Int.ofNat 0), (0, 104, Int.ofNat 0), (0, 105, Int.ofNat 0), (0, 64, Int.ofNat 0), (0, 65, Int.ofNat 0), (0, 66, Int.ofNat 0), (0, 4, Int.ofNat 0), (0, 112, Int.ofNat 0), (0, 113, Int.ofNat 0), (0, 120, Int.ofNat 0), (0, 115, Int.ofNat 0), (0, 121, Int.ofNat 0)]), (151, [], [(0, 115, Int.ofNat 0), (0, 114, Int.ofNat 0), (0, 114, Int.ofNat 0), (0, 121, Int.ofNat 0)])] (by dsimp only [cq_L_67, al_L_67])
set_option maxRecDepth 100000 in
theorem ah_L_68 : rf_ALT cq_L_68 := rf_alt_inf [(317, [], [(0, 86, Int.ofNat 0), (0, 100, Int.ofNat 0), (0, 101, Int.ofNat 0), (0, 102, Int.ofNat 0), (0, 103, Int.ofNat 0), (0, 104, Int.ofNat 0), (0, 105, Int.ofNat 0), (0, 64, Int.ofNat 0), (0, 65, Int.ofNat 0), (0, 66, Int.ofNat 0), (0, 4, Int.ofNat 0), (0, 112, Int.ofNat 0), (0, 113, Int.ofNat 0), (0, 120, Int.ofNat 0), (0, 115, Int.ofNat 0), (0, 124, Int.ofNat 0)]), (321, [], [(0, 86, Int.ofNat 0), (0, 100, Int.ofNat 0), (0, 101, Int.ofNat 0), (0, 102, Int.ofNat 0), (0, 103, Int.ofNat 0), (0, 104, Int.ofNat 0), (0, 105, Int.ofNat 0), (0, 64, Int.ofNat 0), (0, 65, Int.ofNat 0), (0, 66, Int.ofNat 0), (0, 4, Int.ofNat 0), (0, 112, Int.ofNat 0), (0, 113, Int.ofNat 0), (0, 120, Int.ofNat 0), (0, 114, Int.ofNat 0), (0, 116, Int.ofNat 0), (0, 114, Int.ofNat 0), (0, 128, Int.ofNat 0), (0, 129, Int.ofNat 0), (0, 130, Int.ofNat 0), (0, 131, Int.ofNat 0), (0, 132, Int.ofNat 0), (0, 133, Int.ofNat 0), (0, 125, Int.ofNat 0), (0, 126, Int.ofNat 0), (0, 127, Int.ofNat 0)]), (311, [], [(0, 87, Int.ofNat 0), (0, 106, Int.ofNat 0), (0, 107, Int.ofNat 0), (0, 14, Int.ofNat 0), (0, 4, Int.ofNat 0), (0, 123, Int.ofNat 0), (0, 141, Int.ofNat 0), (0, 140, Int.ofNat 0), (0, 0, Int.ofNat 39), (0, 142, Int.ofNat 0), (0, 142, Int.ofNat 0), (0, 13, Int.ofNat 0)]), (310, [], [(0, 122, Int.ofNat 0), (0, 139, Int.ofNat 0), (0, 88, Int.ofNat 0), (0, 88, Int.ofNat 0), (0, 0, Int.ofNat 0), (0, 0, Int.ofNat 1), (0, 0, Int.ofNat 39), (0, 0, Int.ofNat 0), (0, 0, Int.ofNat 1), (0, 142, Int.ofNat 0)]), (310, [], [(0, 121, Int.ofNat 0), (0, 138, Int.ofNat 0), (0, 89, Int.ofNat 0), (0, 89, Int.ofNat 0), (0, 0, Int.ofNat 0), (0, 0, Int.ofNat 1), (0, 0, Int.ofNat 39), (0, 0, Int.ofNat 0), (0, 0, Int.ofNat 1), (0, 142, Int.ofNat 0)]), (312, [], [(0, 123, Int.ofNat 0), (0, 141, Int.ofNat 0), (0, 140, Int.ofNat 0), (0, 0, Int.ofNat 39), (0, 4, Int.ofNat 0), (0, 119, Int.ofNat 0), (0, 134, Int.ofNat 0), (0, 135, Int.ofNat 0), (0, 13, Int.negSucc 0), (0, 120, Int.ofNat 0), (0, 113, Int.ofNat 0), (0, 112, Int.ofNat 0)]), (342, [], [(0, 118, Int.ofNat 0), (0, 136, Int.ofNat 0), (0, 122, Int.ofNat 0), (0, 139, Int.ofNat 0), (0, 13, Int.negSucc 0), (0, 13, Int.negSucc 0), (0, 115, Int.ofNat 0), (0, 124, Int.ofNat 0)]), (343, [68], [(0, 118, Int.ofNat 0), (0, 136, Int.ofNat 0)]), (342, [], [(0, 117, Int.ofNat 0), (0, 137, Int.ofNat 0), (0, 121, Int.ofNat 0), (0, 138, Int.ofNat 0), (0, 13, Int.negSucc 0), (0, 13, Int.negSucc 0), (0, 114, Int.ofNat 0), (0, 114, Int.ofNat 0)]), (343, [69], [(0, 117, Int.ofNat 0), (0, 137, Int.ofNat 0)]), (204, [], [(0, 13, Int.ofNat 0)])] (by dsimp only [cq_L_68, al_L_68])
set_option maxRecDepth 100000 in
theorem ah_L_69 : rf_ALT cq_L_69 := rf_alt_inf [(317, [], [(0, 86, Int.ofNat 0), (0, 100, Int.ofNat 0), (0, 101, Int.ofNat 0), (0, 102, Int.ofNat 0), (0, 103, Int.ofNat 0), (0, 104, Int.ofNat 0), (0, 105, Int.ofNat 0), (0, 64, Int.ofNat 0), (0, 65, Int.ofNat 0), (0, 66, Int.ofNat 0), (0, 4, Int.ofNat 0), (0, 112, Int.ofNat 0), (0, 113, Int.ofNat 0), (0, 120, Int.ofNat 0), (0, 115, Int.ofNat 0), (0, 124, Int.ofNat 0)]), (151, [], [(0, 115, Int.ofNat 0), (0, 114, Int.ofNat 0), (0, 114, Int.ofNat 0), (0, 124, Int.ofNat 0)])] (by dsimp only [cq_L_69, al_L_69])
set_option maxRecDepth 100000 in
theorem ah_L_70 : rf_ALT cq_L_70 := rf_alt_self rfl
set_option maxRecDepth 100000 in
theorem ah_L_71 : rf_ALT cq_L_71 := rf_alt_self rfl
set_option maxRecDepth 100000 in
theorem ah_L_72 : rf_ALT cq_L_72 := rf_alt_self rfl
set_option maxRecDepth 100000 in
theorem ah_L_73 : rf_ALT cq_L_73 := rf_alt_self rfl
set_option maxRecDepth 100000 in
theorem ah_L_74 : rf_ALT cq_L_74 := rf_alt_self rfl
set_option maxRecDepth 100000 in
theorem ah_L_75 : rf_ALT cq_L_75 := rf_alt_self rfl
set_option maxRecDepth 100000 in
theorem ah_L_76 : rf_ALT cq_L_76 := rf_alt_self rfl
set_option maxRecDepth 100000 in
theorem ah_L_77 : rf_ALT cq_L_77 := rf_alt_self rfl
set_option maxRecDepth 100000 in
theorem ah_L_78 : rf_ALT cq_L_78 := rf_alt_self rfl
set_option maxRecDepth 100000 in
theorem ah_L_79 : rf_ALT cq_L_79 := rf_alt_self rfl
set_option maxRecDepth 100000 in
theorem ah_L_80 : rf_ALT cq_L_80 := rf_alt_self rfl
set_option maxRecDepth 100000 in
theorem ah_L_81 : rf_ALT cq_L_81 := rf_alt_self rfl
set_option maxRecDepth 100000 in
theorem ah_L_82 : rf_ALT cq_L_82 := rf_alt_self rfl
set_option maxRecDepth 100000 in
theorem ah_L_83 : rf_ALT cq_L_83 := rf_alt_self rfl
set_option maxRecDepth 100000 in
theorem ah_L_84 : rf_ALT cq_L_84 := rf_alt_self rfl
set_option maxRecDepth 100000 in
theorem ah_L_85 : rf_ALT cq_L_85 := rf_alt_self rfl
set_option maxRecDepth 100000 in
theorem ah_L_86 : rf_ALT cq_L_86 := rf_alt_self rfl
set_option maxRecDepth 100000 in
theorem ah_L_87 : rf_ALT cq_L_87 := rf_alt_self rfl
set_option maxRecDepth 100000 in
theorem ah_L_88 : rf_ALT cq_L_88 := rf_alt_self rfl
set_option maxRecDepth 100000 in
theorem ah_L_89 : rf_ALT cq_L_89 := rf_alt_self rfl
set_option maxRecDepth 100000 in
theorem ah_L_90 : rf_ALT cq_L_90 := rf_alt_self rfl
set_option maxRecDepth 100000 in
theorem ah_L_91 : rf_ALT cq_L_91 := rf_alt_self rfl
set_option maxRecDepth 100000 in
theorem ah_L_92 : rf_ALT cq_L_92 := rf_alt_self rfl
set_option maxRecDepth 100000 in
theorem ah_L_93 : rf_ALT cq_L_93 := rf_alt_self rfl
set_option maxRecDepth 100000 in
theorem ah_L_94 : rf_ALT cq_L_94 := rf_alt_self rfl
set_option maxRecDepth 100000 in
theorem ah_L_95 : rf_ALT cq_L_95 := rf_alt_inf [] (by dsimp only [cq_L_95, al_L_95])
set_option maxRecDepth 100000 in
theorem ah_L_96 : rf_ALT cq_L_96 := rf_alt_inf [(316, [], [(0, 87, Int.ofNat 0), (0, 106, Int.ofNat 0), (0, 107, Int.ofNat 0), (0, 14, Int.ofNat 0), (0, 4, Int.ofNat 0), (0, 13, Int.negSucc 0), (0, 113, Int.ofNat 0), (0, 124, Int.ofNat 0), (0, 125, Int.ofNat 0)]), (135, [], [(0, 13, Int.negSucc 0), (0, 13, Int.negSucc 0), (0, 114, Int.ofNat 0), (0, 126, Int.ofNat 0), (0, 88, Int.ofNat 0)]), (321, [], [(0, 86, Int.ofNat 0), (0, 100, Int.ofNat 0), (0, 101, Int.ofNat 0), (0, 102, Int.ofNat 0), (0, 103, Int.ofNat 0), (0, 104, Int.ofNat 0), (0, 105, Int.ofNat 0), (0, 64, Int.ofNat 0), (0, 65, Int.ofNat 0), (0, 66, Int.ofNat 0), (0, 4, Int.ofNat 0), (0, 125, Int.ofNat 0), (0, 124, Int.ofNat 0), (0, 113, Int.ofNat 0), (0, 126, Int.ofNat 0), (0, 112, Int.ofNat 0), (0, 114, Int.ofNat 0), (0, 118, Int.ofNat 0), (0, 119, Int.ofNat 0), (0, 120, Int.ofNat 0), (0, 121, Int.ofNat 0), (0, 122, Int.ofNat 0), (0, 123, Int.ofNat 0), (0, 115, Int.ofNat 0), (0, 116, Int.ofNat 0), (0, 117, Int.ofNat 0)]), (344, [], [(0, 13, Int.ofNat 0), (0, 68, Int.ofNat 0), (0, 14, Int.ofNat 0)])] (by dsimp only [cq_L_96, al_L_96])
set_option maxRecDepth 100000 in
theorem ah_L_97 : rf_ALT cq_L_97 := rf_alt_self rfl
set_option maxRecDepth 100000 in
theorem ah_L_98 : rf_ALT cq_L_98 := rf_alt_inf [(348, [], [(0, 13, Int.ofNat 0), (0, 68, Int.ofNat 0), (0, 14, Int.ofNat 0)])] (by dsimp only [cq_L_98, al_L_98])
set_option maxRecDepth 100000 in
theorem ah_L_99 : rf_ALT cq_L_99 := rf_alt_inf [] (by dsimp only [cq_L_99, al_L_99])
set_option maxRecDepth 100000 in
theorem ah_L_100 : rf_ALT cq_L_100 := rf_alt_inf [(316, [], [(0, 87, Int.ofNat 0), (0, 106, Int.ofNat 0), (0, 107, Int.ofNat 0), (0, 14, Int.ofNat 0), (0, 4, Int.ofNat 0), (0, 13, Int.ofNat 0), (0, 114, Int.ofNat 0), (0, 125, Int.ofNat 0), (0, 126, Int.ofNat 0)]), (135, [], [(0, 13, Int.ofNat 0), (0, 13, Int.ofNat 0), (0, 115, Int.ofNat 0), (0, 127, Int.ofNat 0), (0, 89, Int.ofNat 0)]), (321, [], [(0, 86, Int.ofNat 0), (0, 100, Int.ofNat 0), (0, 101, Int.ofNat 0), (0, 102, Int.ofNat 0), (0, 103, Int.ofNat 0), (0, 104, Int.ofNat 0), (0, 105, Int.ofNat 0), (0, 64, Int.ofNat 0), (0, 65, Int.ofNat 0), (0, 66, Int.ofNat 0), (0, 4, Int.ofNat 0), (0, 126, Int.ofNat 0), (0, 125, Int.ofNat 0), (0, 114, Int.ofNat 0), (0, 127, Int.ofNat 0), (0, 113, Int.ofNat 0), (0, 115, Int.ofNat 0), (0, 119, Int.ofNat 0), (0, 120, Int.ofNat 0), (0, 121, Int.ofNat 0), (0, 122, Int.ofNat 0), (0, 123, Int.ofNat 0), (0, 124, Int.ofNat 0), (0, 116, Int.ofNat 0), (0, 117, Int.ofNat 0), (0, 118, Int.ofNat 0)]), (345, [], [(0, 13, Int.ofNat 0), (0, 68, Int.ofNat 0), (0, 14, Int.ofNat 0)]), (346, [], [(0, 13, Int.ofNat 0), (0, 68, Int.ofNat 0), (0, 14, Int.ofNat 0), (0, 112, Int.ofNat 0)])] (by dsimp only [cq_L_100, al_L_100])
set_option maxRecDepth 100000 in
theorem ah_L_101 : rf_ALT cq_L_101 := rf_alt_inf [(347, [], [(0, 13, Int.ofNat 0), (0, 68, Int.ofNat 0), (0, 14, Int.ofNat 0)])] (by dsimp only [cq_L_101, al_L_101])
set_option maxRecDepth 100000 in
theorem ah_L_102 : rf_ALT cq_L_102 := rf_alt_self rfl
set_option maxRecDepth 100000 in
theorem ah_L_103 : rf_ALT cq_L_103 := rf_alt_self rfl
set_option maxRecDepth 100000 in
theorem ah_L_104 : rf_ALT cq_L_104 := rf_alt_self rfl
set_option maxRecDepth 100000 in
theorem ah_L_105 : rf_ALT cq_L_105 := rf_alt_self rfl
set_option maxRecDepth 100000 in
theorem ah_L_106 : rf_ALT cq_L_106 := rf_alt_split [(111, [(Int.negSucc 2147483647, Int.negSucc 0), (Int.ofNat 0, Int.ofNat 0), (Int.ofNat 1, Int.ofNat 1), (Int.ofNat 2, Int.ofNat 2), (Int.ofNat 3, Int.ofNat 3), (Int.ofNat 4, Int.ofNat 4), (Int.ofNat 5, Int.ofNat 5), (Int.ofNat 6, Int.ofNat 2147483647)])] rfl (by decide +kernel)
set_option maxRecDepth 100000 in
theorem ah_L_107 : rf_ALT cq_L_107 := rf_alt_self rfl
set_option maxRecDepth 100000 in
theorem ah_L_108 : rf_ALT cq_L_108 := rf_alt_self rfl
set_option maxRecDepth 100000 in
theorem ah_L_109 : rf_ALT cq_L_109 := rf_alt_self rfl
set_option maxRecDepth 100000 in
theorem ah_L_110 : rf_ALT cq_L_110 := rf_alt_self rfl
set_option maxRecDepth 100000 in
theorem ah_L_111 : rf_ALT cq_L_111 := rf_alt_self rfl
set_option maxRecDepth 100000 in
theorem ah_L_112 : rf_ALT cq_L_112 := rf_alt_self rfl
set_option maxRecDepth 100000 in
theorem ah_L_113 : rf_ALT cq_L_113 := rf_alt_self rfl
set_option maxRecDepth 100000 in
theorem ah_L_114 : rf_ALT cq_L_114 := rf_alt_self rfl
set_option maxRecDepth 100000 in
theorem ah_L_115 : rf_ALT cq_L_115 := rf_alt_self rfl
set_option maxRecDepth 100000 in
theorem ah_L_116 : rf_ALT cq_L_116 := rf_alt_self rfl
set_option maxRecDepth 100000 in
theorem ah_L_117 : rf_ALT cq_L_117 := rf_alt_self rfl
set_option maxRecDepth 100000 in
theorem ah_L_118 : rf_ALT cq_L_118 := rf_alt_self rfl
set_option maxRecDepth 100000 in
theorem ah_L_119 : rf_ALT cq_L_119 := rf_alt_self rfl
set_option maxRecDepth 100000 in
theorem ah_L_120 : rf_ALT cq_L_120 := rf_alt_self rfl
set_option maxRecDepth 100000 in
theorem ah_L_121 : rf_ALT cq_L_121 := rf_alt_self rfl
set_option maxRecDepth 100000 in
theorem ah_L_122 : rf_ALT cq_L_122 := rf_alt_self rfl
set_option maxRecDepth 100000 in
theorem ah_L_123 : rf_ALT cq_L_123 := rf_alt_self rfl
set_option maxRecDepth 100000 in
theorem ah_L_124 : rf_ALT cq_L_124 := rf_alt_self rfl
set_option maxRecDepth 100000 in
theorem ah_L_125 : rf_ALT cq_L_125 := rf_alt_self rfl
set_option maxRecDepth 100000 in
theorem ah_L_126 : rf_ALT cq_L_126 := rf_alt_self rfl
set_option maxRecDepth 100000 in
theorem ah_L_127 : rf_ALT cq_L_127 := rf_alt_self rfl
set_option maxRecDepth 100000 in
theorem ah_L_128 : rf_ALT cq_L_128 := rf_alt_self rfl
set_option maxRecDepth 100000 in
theorem ah_L_129 : rf_ALT cq_L_129 := rf_alt_self rfl
set_option maxRecDepth 100000 in
theorem ah_L_130 : rf_ALT cq_L_130 := rf_alt_self rfl
set_option maxRecDepth 100000 in
theorem ah_L_131 : rf_ALT cq_L_131 := rf_alt_self rfl
set_option maxRecDepth 100000 in
theorem ah_L_132 : rf_ALT cq_L_132 := rf_alt_self rfl
set_option maxRecDepth 100000 in
theorem ah_L_133 : rf_ALT cq_L_133 := rf_alt_inf [(100, [94], [(0, 112, Int.ofNat 0), (0, 113, Int.ofNat 0), (0, 96, Int.ofNat 0)]), (107, [], [(0, 0, Int.ofNat 0), (0, 39, Int.ofNat 0), (0, 40, Int.ofNat 0), (0, 0, Int.ofNat 0), (0, 96, Int.ofNat 0), (0, 97, Int.ofNat 0), (0, 0, Int.ofNat 0), (0, 114, Int.ofNat 0)]), (102, [], [(0, 42, Int.ofNat 0), (0, 43, Int.ofNat 0), (0, 44, Int.ofNat 0), (0, 45, Int.ofNat 0), (0, 96, Int.ofNat 0), (0, 97, Int.ofNat 0), (0, 0, Int.ofNat 1), (0, 114, Int.ofNat 0), (0, 0, Int.ofNat 0), (0, 113, Int.ofNat 0)]), (102, [], [(0, 46, Int.ofNat 0), (0, 47, Int.ofNat 0), (0, 48, Int.ofNat 0), (0, 49, Int.ofNat 0), (0, 96, Int.ofNat 0), (0, 97, Int.ofNat 0), (0, 0, Int.ofNat 2), (0, 114, Int.ofNat 0), (0, 0, Int.ofNat 0), (0, 113, Int.ofNat 0)]), (102, [], [(0, 50, Int.ofNat 0), (0, 51, Int.ofNat 0), (0, 52, Int.ofNat 0), (0, 53, Int.ofNat 0), (0, 96, Int.ofNat 0), (0, 97, Int.ofNat 0), (0, 0, Int.ofNat 3), (0, 114, Int.ofNat 0), (0, 0, Int.ofNat 0), (0, 113, Int.ofNat 0)]), (102, [], [(0, 54, Int.ofNat 0), (0, 55, Int.ofNat 0), (0, 56, Int.ofNat 0), (0, 57, Int.ofNat 0), (0, 96, Int.ofNat 0), (0, 97, Int.ofNat 0), (0, 0, Int.ofNat 4), (0, 114, Int.ofNat 0), (0, 0, Int.ofNat 0), (0, 113, Int.ofNat 0)]), (102, [], [(0, 58, Int.ofNat 0), (0, 59, Int.ofNat 0), (0, 60, Int.ofNat 0), (0, 61, Int.ofNat 0), (0, 96, Int.ofNat 0), (0, 97, Int.ofNat 0), (0, 0, Int.ofNat 5), (0, 114, Int.ofNat 0), (0, 0, Int.ofNat 0), (0, 113, Int.ofNat 0)]), (189, [], [(0, 0, Int.ofNat 0), (0, 0, Int.ofNat 0), (0, 90, Int.ofNat 0), (0, 98, Int.ofNat 0), (0, 0, Int.ofNat 0)])] (by dsimp only [cq_L_133, al_L_133])
set_option maxRecDepth 100000 in
theorem ah_L_134 : rf_ALT cq_L_134 := rf_alt_inf [(100, [94], [(0, 112, Int.ofNat 0), (0, 113, Int.ofNat 0), (0, 96, Int.ofNat 0)]), (106, [], [(0, 0, Int.ofNat 1), (0, 113, Int.ofNat 0), (0, 40, Int.ofNat 0), (0, 0, Int.ofNat 0), (0, 96, Int.ofNat 0), (0, 97, Int.ofNat 0), (0, 0, Int.ofNat 0), (0, 114, Int.ofNat 0)]), (102, [], [(0, 42, Int.ofNat 0), (0, 43, Int.ofNat 0), (0, 44, Int.ofNat 0), (0, 45, Int.ofNat 0), (0, 96, Int.ofNat 0), (0, 97, Int.ofNat 0), (0, 0, Int.ofNat 1), (0, 114, Int.ofNat 0), (0, 0, Int.ofNat 0), (0, 113, Int.ofNat 0)]), (102, [], [(0, 46, Int.ofNat 0), (0, 47, Int.ofNat 0), (0, 48, Int.ofNat 0), (0, 49, Int.ofNat 0), (0, 96, Int.ofNat 0), (0, 97, Int.ofNat 0), (0, 0, Int.ofNat 2), (0, 114, Int.ofNat 0), (0, 0, Int.ofNat 0), (0, 113, Int.ofNat 0)]), (102, [], [(0, 50, Int.ofNat 0), (0, 51, Int.ofNat 0), (0, 52, Int.ofNat 0), (0, 53, Int.ofNat 0), (0, 96, Int.ofNat 0), (0, 97, Int.ofNat 0), (0, 0, Int.ofNat 3), (0, 114, Int.ofNat 0), (0, 0, Int.ofNat 0), (0, 113, Int.ofNat 0)]), (102, [], [(0, 54, Int.ofNat 0), (0, 55, Int.ofNat 0), (0, 56, Int.ofNat 0), (0, 57, Int.ofNat 0), (0, 96, Int.ofNat 0), (0, 97, Int.ofNat 0), (0, 0, Int.ofNat 4), (0, 114, Int.ofNat 0), (0, 0, Int.ofNat 0), (0, 113, Int.ofNat 0)]), (102, [], [(0, 58, Int.ofNat 0), (0, 59, Int.ofNat 0), (0, 60, Int.ofNat 0), (0, 61, Int.ofNat 0), (0, 96, Int.ofNat 0), (0, 97, Int.ofNat 0), (0, 0, Int.ofNat 5), (0, 114, Int.ofNat 0), (0, 0, Int.ofNat 0), (0, 113, Int.ofNat 0)]), (189, [], [(0, 0, Int.ofNat 1), (0, 0, Int.ofNat 0), (0, 90, Int.ofNat 0), (0, 98, Int.ofNat 0), (0, 0, Int.ofNat 0)])] (by dsimp only [cq_L_134, al_L_134])
set_option maxRecDepth 100000 in
theorem ah_L_135 : rf_ALT cq_L_135 := rf_alt_inf [(100, [94], [(0, 112, Int.ofNat 0), (0, 113, Int.ofNat 0), (0, 96, Int.ofNat 0)]), (101, [], [(0, 38, Int.ofNat 0), (0, 39, Int.ofNat 0), (0, 40, Int.ofNat 0), (0, 41, Int.ofNat 0), (0, 96, Int.ofNat 0), (0, 97, Int.ofNat 0), (0, 0, Int.ofNat 0), (0, 114, Int.ofNat 0), (0, 0, Int.ofNat 1), (0, 113, Int.ofNat 0)]), (107, [], [(0, 0, Int.ofNat 0), (0, 43, Int.ofNat 0), (0, 44, Int.ofNat 0), (0, 0, Int.ofNat 0), (0, 96, Int.ofNat 0), (0, 97, Int.ofNat 0), (0, 0, Int.ofNat 1), (0, 114, Int.ofNat 0)]), (102, [], [(0, 46, Int.ofNat 0), (0, 47, Int.ofNat 0), (0, 48, Int.ofNat 0), (0, 49, Int.ofNat 0), (0, 96, Int.ofNat 0), (0, 97, Int.ofNat 0), (0, 0, Int.ofNat 2), (0, 114, Int.ofNat 0), (0, 0, Int.ofNat 1), (0, 113, Int.ofNat 0)]), (102, [], [(0, 50, Int.ofNat 0), (0, 51, Int.ofNat 0), (0, 52, Int.ofNat 0), (0, 53, Int.ofNat 0), (0, 96, Int.ofNat 0), (0, 97, Int.ofNat 0), (0, 0, Int.ofNat 3), (0, 114, Int.ofNat 0), (0, 0, Int.ofNat 1), (0, 113, Int.ofNat 0)]), (102, [], [(0, 54, Int.ofNat 0), (0, 55, Int.ofNat 0), (0, 56, Int.ofNat 0), (0, 57, Int.ofNat 0), (0, 96, Int.ofNat 0), (0, 97, Int.ofNat 0), (0, 0, Int.ofNat 4), (0, 114, Int.ofNat 0), (0, 0, Int.ofNat 1), (0, 113, Int.ofNat 0)]), (102, [], [(0, 58, Int.ofNat 0), (0, 59, Int.ofNat 0), (0, 60, Int.ofNat 0), (0, 61, Int.ofNat 0), (0, 96, Int.ofNat 0), (0, 97, Int.ofNat 0), (0, 0, Int.ofNat 5), (0, 114, Int.ofNat 0), (0, 0, Int.ofNat 1), (0, 113, Int.ofNat 0)]), (189, [], [(0, 0, Int.ofNat 0), (0, 0, Int.ofNat 0), (0, 91, Int.ofNat 0), (0, 98, Int.ofNat 0), (0, 0, Int.ofNat 1)])] (by dsimp only [cq_L_135, al_L_135])
set_option maxRecDepth 100000 in
theorem ah_L_136 : rf_ALT cq_L_136 := rf_alt_inf [(100, [94], [(0, 112, Int.ofNat 0), (0, 113, Int.ofNat 0), (0, 96, Int.ofNat 0)]), (101, [], [(0, 38, Int.ofNat 0), (0, 39, Int.ofNat 0), (0, 40, Int.ofNat 0), (0, 41, Int.ofNat 0), (0, 96, Int.ofNat 0), (0, 97, Int.ofNat 0), (0, 0, Int.ofNat 0), (0, 114, Int.ofNat 0), (0, 0, Int.ofNat 1), (0, 113, Int.ofNat 0)]), (106, [], [(0, 0, Int.ofNat 1), (0, 113, Int.ofNat 0), (0, 44, Int.ofNat 0), (0, 0, Int.ofNat 0), (0, 96, Int.ofNat 0), (0, 97, Int.ofNat 0), (0, 0, Int.ofNat 1), (0, 114, Int.ofNat 0)]), (102, [], [(0, 46, Int.ofNat 0), (0, 47, Int.ofNat 0), (0, 48, Int.ofNat 0), (0, 49, Int.ofNat 0), (0, 96, Int.ofNat 0), (0, 97, Int.ofNat 0), (0, 0, Int.ofNat 2), (0, 114, Int.ofNat 0), (0, 0, Int.ofNat 1), (0, 113, Int.ofNat 0)]), (102, [], [(0, 50, Int.ofNat 0), (0, 51, Int.ofNat 0), (0, 52, Int.ofNat 0), (0, 53, Int.ofNat 0), (0, 96, Int.ofNat 0), (0, 97, Int.ofNat 0), (0, 0, Int.ofNat 3), (0, 114, Int.ofNat 0), (0, 0, Int.ofNat 1), (0, 113, Int.ofNat 0)]), (102, [], [(0, 54, Int.ofNat 0), (0, 55, Int.ofNat 0), (0, 56, Int.ofNat 0), (0, 57, Int.ofNat 0), (0, 96, Int.ofNat 0), (0, 97, Int.ofNat 0), (0, 0, Int.ofNat 4), (0, 114, Int.ofNat 0), (0, 0, Int.ofNat 1), (0, 113, Int.ofNat 0)]), (102, [], [(0, 58, Int.ofNat 0), (0, 59, Int.ofNat 0), (0, 60, Int.ofNat 0), (0, 61, Int.ofNat 0), (0, 96, Int.ofNat 0), (0, 97, Int.ofNat 0), (0, 0, Int.ofNat 5), (0, 114, Int.ofNat 0), (0, 0, Int.ofNat 1), (0, 113, Int.ofNat 0)]), (189, [], [(0, 0, Int.ofNat 1), (0, 0, Int.ofNat 0), (0, 91, Int.ofNat 0), (0, 98, Int.ofNat 0), (0, 0, Int.ofNat 1)])] (by dsimp only [cq_L_136, al_L_136])
set_option maxRecDepth 100000 in
theorem ah_L_137 : rf_ALT cq_L_137 := rf_alt_inf [(100, [94], [(0, 112, Int.ofNat 0), (0, 113, Int.ofNat 0), (0, 96, Int.ofNat 0)]), (101, [], [(0, 38, Int.ofNat 0), (0, 39, Int.ofNat 0), (0, 40, Int.ofNat 0), (0, 41, Int.ofNat 0), (0, 96, Int.ofNat 0), (0, 97, Int.ofNat 0), (0, 0, Int.ofNat 0), (0, 114, Int.ofNat 0), (0, 0, Int.ofNat 2), (0, 113, Int.ofNat 0)]), (101, [], [(0, 42, Int.ofNat 0), (0, 43, Int.ofNat 0), (0, 44, Int.ofNat 0), (0, 45, Int.ofNat 0), (0, 96, Int.ofNat 0), (0, 97, Int.ofNat 0), (0, 0, Int.ofNat 1), (0, 114, Int.ofNat 0), (0, 0, Int.ofNat 2), (0, 113, Int.ofNat 0)]), (107, [], [(0, 0, Int.ofNat 0), (0, 47, Int.ofNat 0), (0, 48, Int.ofNat 0), (0, 0, Int.ofNat 0), (0, 96, Int.ofNat 0), (0, 97, Int.ofNat 0), (0, 0, Int.ofNat 2), (0, 114, Int.ofNat 0)]), (102, [], [(0, 50, Int.ofNat 0), (0, 51, Int.ofNat 0), (0, 52, Int.ofNat 0), (0, 53, Int.ofNat 0), (0, 96, Int.ofNat 0), (0, 97, Int.ofNat 0), (0, 0, Int.ofNat 3), (0, 114, Int.ofNat 0), (0, 0, Int.ofNat 2), (0, 113, Int.ofNat 0)]), (102, [], [(0, 54, Int.ofNat 0), (0, 55, Int.ofNat 0), (0, 56, Int.ofNat 0), (0, 57, Int.ofNat 0), (0, 96, Int.ofNat 0), (0, 97, Int.ofNat 0), (0, 0, Int.ofNat 4), (0, 114, Int.ofNat 0), (0, 0, Int.ofNat 2), (0, 113, Int.ofNat 0)]), (102, [], [(0, 58, Int.ofNat 0), (0, 59, Int.ofNat 0), (0, 60, Int.ofNat 0), (0, 61, Int.ofNat 0), (0, 96, Int.ofNat 0), (0, 97, Int.ofNat 0), (0, 0, Int.ofNat 5), (0, 114, Int.ofNat 0), (0, 0, Int.ofNat 2), (0, 113, Int.ofNat 0)]), (189, [], [(0, 0, Int.ofNat 0), (0, 0, Int.ofNat 0), (0, 92, Int.ofNat 0), (0, 98, Int.ofNat 0), (0, 0, Int.ofNat 2)])] (by dsimp only [cq_L_137, al_L_137])
set_option maxRecDepth 100000 in
theorem ah_L_138 : rf_ALT cq_L_138 := rf_alt_inf [(100, [94], [(0, 112, Int.ofNat 0), (0, 113, Int.ofNat 0), (0, 96, Int.ofNat 0)]), (101, [], [(0, 38, Int.ofNat 0), (0, 39, Int.ofNat 0), (0, 40, Int.ofNat 0), (0, 41, Int.ofNat 0), (0, 96, Int.ofNat 0), (0, 97, Int.ofNat 0), (0, 0, Int.ofNat 0), (0, 114, Int.ofNat 0), (0, 0, Int.ofNat 2), (0, 113, Int.ofNat 0)]), (101, [], [(0, 42, Int.ofNat 0), (0, 43, Int.ofNat 0), (0, 44, Int.ofNat 0), (0, 45, Int.ofNat 0), (0, 96, Int.ofNat 0), (0, 97, Int.ofNat 0), (0, 0, Int.ofNat 1), (0, 114, Int.ofNat 0), (0, 0, Int.ofNat 2), (0, 113, Int.ofNat 0)]), (106, [], [(0, 0, Int.ofNat 1), (0, 113, Int.ofNat 0), (0, 48, Int.ofNat 0), (0, 0, Int.ofNat 0), (0, 96, Int.ofNat 0), (0, 97, Int.ofNat 0), (0, 0, Int.ofNat 2), (0, 114, Int.ofNat 0)]), (102, [], [(0, 50, Int.ofNat 0), (0, 51, Int.ofNat 0), (0, 52, Int.ofNat 0), (0, 53, Int.ofNat 0), (0, 96, Int.ofNat 0), (0, 97, Int.ofNat 0), (0, 0, Int.ofNat 3), (0, 114, Int.ofNat 0), (0, 0, Int.ofNat 2), (0, 113, Int.ofNat 0)]), (102, [], [(0, 54, Int.ofNat 0), (0, 55, Int.ofNat 0), (0, 56, Int.ofNat 0), (0, 57, Int.ofNat 0), (0, 96, Int.ofNat 0), (0, 97, Int.ofNat 0), (0, 0, Int.ofNat 4), (0, 114, Int.ofNat 0), (0, 0, Int.ofNat 2), (0, 113, Int.ofNat 0)]), (102, [], [(0, 58, Int.ofNat 0), (0, 59, Int.ofNat 0), (0, 60, Int.ofNat 0), (0, 61, Int.ofNat 0), (0, 96, Int.ofNat 0), (0, 97, Int.ofNat 0), (0, 0, Int.ofNat 5), (0, 114, Int.ofNat 0), (0, 0, Int.ofNat 2), (0, 113, Int.ofNat 0)]), (189, [], [(0, 0, Int.ofNat 1), (0, 0, Int.ofNat 0), (0, 92, Int.ofNat 0), (0, 98, Int.ofNat 0), (0, 0, Int.ofNat 2)])] (by dsimp only [cq_L_138, al_L_138])
set_option maxRecDepth 100000 in
theorem ah_L_139 : rf_ALT cq_L_139 := rf_alt_inf [(100, [94], [(0, 112, Int.ofNat 0), (0, 113, Int.ofNat 0), (0, 96, Int.ofNat 0)]), (101, [], [(0, 38, Int.ofNat 0), (0, 39, Int.ofNat 0), (0, 40, Int.ofNat 0), (0, 41, Int.ofNat 0), (0, 96, Int.ofNat 0), (0, 97, Int.ofNat 0), (0, 0, Int.ofNat 0), (0, 114, Int.ofNat 0), (0, 0, Int.ofNat 3), (0, 113, Int.ofNat 0)]), (101, [], [(0, 42, Int.ofNat 0), (0, 43, Int.ofNat 0), (0, 44, Int.ofNat 0), (0, 45, Int.ofNat 0), (0, 96, Int.ofNat 0), (0, 97, Int.ofNat 0), (0, 0, Int.ofNat 1), (0, 114, Int.ofNat 0), (0, 0, Int.ofNat 3), (0, 113, Int.ofNat 0)]), (101, [], [(0, 46, Int.ofNat 0), (0, 47, Int.ofNat 0), (0, 48, Int.ofNat 0), (0, 49, Int.ofNat 0), (0, 96, Int.ofNat 0), (0, 97, Int.ofNat 0), (0, 0, Int.ofNat 2), (0, 114, Int.ofNat 0), (0, 0, Int.ofNat 3), (0, 113, Int.ofNat 0)]), (107, [], [(0, 0, Int.ofNat 0), (0, 51, Int.ofNat 0), (0, 52, Int.ofNat 0), (0, 0, Int.ofNat 0), (0, 96, Int.ofNat 0), (0, 97, Int.ofNat 0), (0, 0, Int.ofNat 3), (0, 114, Int.ofNat 0)]), (102, [], [(0, 54, Int.ofNat 0), (0, 55, Int.ofNat 0), (0, 56, Int.ofNat 0), (0, 57, Int.ofNat 0), (0, 96, Int.ofNat 0), (0, 97, Int.ofNat 0), (0, 0, Int.ofNat 4), (0, 114, Int.ofNat 0), (0, 0, Int.ofNat 3), (0, 113, Int.ofNat 0)]), (102, [], [(0, 58, Int.ofNat 0), (0, 59, Int.ofNat 0), (0, 60, Int.ofNat 0), (0, 61, Int.ofNat 0), (0, 96, Int.ofNat 0), (0, 97, Int.ofNat 0), (0, 0, Int.ofNat 5), (0, 114, Int.ofNat 0), (0, 0, Int.ofNat 3), (0, 113, Int.ofNat 0)]), (189, [], [(0, 0, Int.ofNat 0), (0, 0, Int.ofNat 0), (0, 93, Int.ofNat 0), (0, 98, Int.ofNat 0), (0, 0, Int.ofNat 3)])] (by dsimp only [cq_L_139, al_L_139])
set_option maxRecDepth 100000 in
theorem ah_L_140 : rf_ALT cq_L_140 := rf_alt_inf [(100, [94], [(0, 112, Int.ofNat 0), (0, 113, Int.ofNat 0), (0, 96, Int.ofNat 0)]), (101, [], [(0, 38, Int.ofNat 0), (0, 39, Int.ofNat 0), (0, 40, Int.ofNat 0), (0, 41, Int.ofNat 0), (0, 96, Int.ofNat 0), (0, 97, Int.ofNat 0), (0, 0, Int.ofNat 0), (0, 114, Int.ofNat 0), (0, 0, Int.ofNat 3), (0, 113, Int.ofNat 0)]), (101, [], [(0, 42, Int.ofNat 0), (0, 43, Int.ofNat 0), (0, 44, Int.ofNat 0), (0, 45, Int.ofNat 0), (0, 96, Int.ofNat 0), (0, 97, Int.ofNat 0), (0, 0, Int.ofNat 1), (0, 114, Int.ofNat 0), (0, 0, Int.ofNat 3), (0, 113, Int.ofNat 0)]), (101, [], [(0, 46, Int.ofNat 0), (0, 47, Int.ofNat 0), (0, 48, Int.ofNat 0), (0, 49, Int.ofNat 0), (0, 96, Int.ofNat 0), (0, 97, Int.ofNat 0), (0, 0, Int.ofNat 2), (0, 114, Int.ofNat 0), (0, 0, Int.ofNat 3), (0, 113, Int.ofNat 0)]), (106, [], [(0, 0, Int.ofNat 1), (0, 113, Int.ofNat 0), (0, 52, Int.ofNat 0), (0, 0, Int.ofNat 0), (0, 96, Int.ofNat 0), (0, 97, Int.ofNat 0), (0, 0, Int.ofNat 3), (0, 114, Int.ofNat 0)]), (102, [], [(0, 54, Int.ofNat 0), (0, 55, Int.ofNat 0), (0, 56, Int.ofNat 0), (0, 57, Int.ofNat 0), (0, 96, Int.ofNat 0), (0, 97, Int.ofNat 0), (0, 0, Int.ofNat 4), (0, 114, Int.ofNat 0), (0, 0, Int.ofNat 3), (0, 113, Int.ofNat 0)]), (102, [], [(0, 58, Int.ofNat 0), (0, 59, Int.ofNat 0), (0, 60, Int.ofNat 0), (0, 61, Int.ofNat 0), (0, 96, Int.ofNat 0), (0, 97, Int.ofNat 0), (0, 0, Int.ofNat 5), (0, 114, Int.ofNat 0), (0, 0, Int.ofNat 3), (0, 113, Int.ofNat 0)]), (189, [], [(0, 0, Int.ofNat 1), (0, 0, Int.ofNat 0), (0, 93, Int.ofNat 0), (0, 98, Int.ofNat 0), (0, 0, Int.ofNat 3)])] (by dsimp only [cq_L_140, al_L_140])
set_option maxRecDepth 100000 in
theorem ah_L_141 : rf_ALT cq_L_141 := rf_alt_inf [(100, [94], [(0, 112, Int.ofNat 0), (0, 113, Int.ofNat 0), (0, 96, Int.ofNat 0)]), (101, [], [(0, 38, Int.ofNat 0), (0, 39, Int.ofNat 0), (0, 40, Int.ofNat 0), (0, 41, Int.ofNat 0), (0, 96, Int.ofNat 0), (0, 97, Int.ofNat 0), (0, 0, Int.ofNat 0), (0, 114, Int.ofNat 0), (0, 0, Int.ofNat 4), (0, 113, Int.ofNat 0)]), (101, [], [(0, 42, Int.ofNat 0), (0, 43, Int.ofNat 0), (0, 44, Int.ofNat 0), (0, 45, Int.ofNat 0), (0, 96, Int.ofNat 0), (0, 97, Int.ofNat 0), (0, 0, Int.ofNat 1), (0, 114, Int.ofNat 0), (0, 0, Int.ofNat 4), (0, 113, Int.ofNat 0)]), (101, [], [(0, 46, Int.ofNat 0), (0, 47, Int.ofNat 0), (0, 48, Int.ofNat 0), (0, 49, Int.ofNat 0), (0, 96, Int.ofNat 0), (0, 97, Int.ofNat 0), (0, 0, Int.ofNat 2), (0, 114, Int.ofNat 0), (0, 0, Int.ofNat 4), (0, 113, Int.ofNat 0)]), (101, [], [(0, 50, Int.ofNat 0), (0, 51, Int.ofNat 0), (0, 52, Int.ofNat 0), (0, 53, Int.ofNat 0), (0, 96, Int.ofNat 0), (0, 97, Int.ofNat 0), (0, 0, Int.ofNat 3), (0, 114, Int.ofNat 0), (0, 0, Int.ofNat 4), (0, 113, Int.ofNat 0)]), (107, [], [(0, 0, Int.ofNat 0), (0, 55, Int.ofNat 0), (0, 56, Int.ofNat 0), (0, 0, Int.ofNat 0), (0, 96, Int.ofNat 0), (0, 97, Int.ofNat 0), (0, 0, Int.ofNat 4), (0, 114, Int.ofNat 0)]), (102, [], [(0, 58, Int.ofNat 0), (0, 59, Int.ofNat 0), (0, 60, Int.ofNat 0), (0, 61, Int.ofNat 0), (0, 96, Int.ofNat 0), (0, 97, Int.ofNat 0), (0, 0, Int.ofNat 5), (0, 114, Int.ofNat 0), (0, 0, Int.ofNat 4), (0, 113, Int.ofNat 0)]), (189, [], [(0, 0, Int.ofNat 0), (0, 0, Int.ofNat 0), (0, 94, Int.ofNat 0), (0, 98, Int.ofNat 0), (0, 0, Int.ofNat 4)])] (by dsimp only [cq_L_141, al_L_141])
set_option maxRecDepth 100000 in
theorem ah_L_142 : rf_ALT cq_L_142 := rf_alt_inf [(100, [94], [(0, 112, Int.ofNat 0), (0, 113, Int.ofNat 0), (0, 96, Int.ofNat 0)]), (101, [], [(0, 38, Int.ofNat 0), (0, 39, Int.ofNat 0), (0, 40, Int.ofNat 0), (0, 41, Int.ofNat 0), (0, 96, Int.ofNat 0), (0, 97, Int.ofNat 0), (0, 0, Int.ofNat 0), (0, 114, Int.ofNat 0), (0, 0, Int.ofNat 4), (0, 113, Int.ofNat 0)]), (101, [], [(0, 42, Int.ofNat 0), (0, 43, Int.ofNat 0), (0, 44, Int.ofNat 0), (0, 45, Int.ofNat 0), (0, 96, Int.ofNat 0), (0, 97, Int.ofNat 0), (0, 0, Int.ofNat 1), (0, 114, Int.ofNat 0), (0, 0, Int.ofNat 4), (0, 113, Int.ofNat 0)]), (101, [], [(0, 46, Int.ofNat 0), (0, 47, Int.ofNat 0), (0, 48, Int.ofNat 0), (0, 49, Int.ofNat 0), (0, 96, Int.ofNat 0), (0, 97, Int.ofNat 0), (0, 0, Int.ofNat 2), (0, 114, Int.ofNat 0), (0, 0, Int.ofNat 4), (0, 113, Int.ofNat 0)]), (101, [], [(0, 50, Int.ofNat 0), (0, 51, Int.ofNat 0), (0, 52, Int.ofNat 0), (0, 53, Int.ofNat 0), (0, 96, Int.ofNat 0), (0, 97, Int.ofNat 0), (0, 0, Int.ofNat 3), (0, 114, Int.ofNat 0), (0, 0, Int.ofNat 4), (0, 113, Int.ofNat 0)]), (106, [], [(0, 0, Int.ofNat 1), (0, 113, Int.ofNat 0), (0, 56, Int.ofNat 0), (0, 0, Int.ofNat 0), (0, 96, Int.ofNat 0), (0, 97, Int.ofNat 0), (0, 0, Int.ofNat 4), (0, 114, Int.ofNat 0)]), (102, [], [(0, 58, Int.ofNat 0), (0, 59, Int.ofNat 0), (0, 60, Int.ofNat 0), (0, 61, Int.ofNat 0), (0, 96, Int.ofNat 0), (0, 97, Int.ofNat 0), (0, 0, Int.ofNat 5), (0, 114, Int.ofNat 0), (0, 0, Int.ofNat 4), (0, 113, Int.ofNat 0)]), (189, [], [(0, 0, Int.ofNat 1), (0, 0, Int.ofNat 0), (0, 94, Int.ofNat 0), (0, 98, Int.ofNat 0), (0, 0, Int.ofNat 4)])] (by dsimp only [cq_L_142, al_L_142])
set_option maxRecDepth 100000 in
theorem ah_L_143 : rf_ALT cq_L_143 := rf_alt_inf [(100, [94], [(0, 112, Int.ofNat 0), (0, 113, Int.ofNat 0), (0, 96, Int.ofNat 0)]), (101, [], [(0, 38, Int.ofNat 0), (0, 39, Int.ofNat 0), (0, 40, Int.ofNat 0), (0, 41, Int.ofNat 0), (0, 96, Int.ofNat 0), (0, 97, Int.ofNat 0), (0, 0, Int.ofNat 0), (0, 114, Int.ofNat 0), (0, 0, Int.ofNat 5), (0, 113, Int.ofNat 0)]), (101, [], [(0, 42, Int.ofNat 0), (0, 43, Int.ofNat 0), (0, 44, Int.ofNat 0), (0, 45, Int.ofNat 0), (0, 96, Int.ofNat 0), (0, 97, Int.ofNat 0), (0, 0, Int.ofNat 1), (0, 114, Int.ofNat 0), (0, 0, Int.ofNat 5), (0, 113, Int.ofNat 0)]), (101, [], [(0, 46, Int.ofNat 0), (0, 47, Int.ofNat 0), (0, 48, Int.ofNat 0), (0, 49, Int.ofNat 0), (0, 96, Int.ofNat 0), (0, 97, Int.ofNat 0), (0, 0, Int.ofNat 2), (0, 114, Int.ofNat 0), (0, 0, Int.ofNat 5), (0, 113, Int.ofNat 0)]), (101, [], [(0, 50, Int.ofNat 0), (0, 51, Int.ofNat 0), (0, 52, Int.ofNat 0), (0, 53, Int.ofNat 0), (0, 96, Int.ofNat 0), (0, 97, Int.ofNat 0), (0, 0, Int.ofNat 3), (0, 114, Int.ofNat 0), (0, 0, Int.ofNat 5), (0, 113, Int.ofNat 0)]), (101, [], [(0, 54, Int.ofNat 0), (0, 55, Int.ofNat 0), (0, 56, Int.ofNat 0), (0, 57, Int.ofNat 0), (0, 96, Int.ofNat 0), (0, 97, Int.ofNat 0), (0, 0, Int.ofNat 4), (0, 114, Int.ofNat 0), (0, 0, Int.ofNat 5), (0, 113, Int.ofNat 0)]), (107, [], [(0, 0, Int.ofNat 0), (0, 59, Int.ofNat 0), (0, 60, Int.ofNat 0), (0, 0, Int.ofNat 0), (0, 96, Int.ofNat 0), (0, 97, Int.ofNat 0), (0, 0, Int.ofNat 5), (0, 114, Int.ofNat 0)]), (189, [], [(0, 0, Int.ofNat 0), (0, 0, Int.ofNat 0), (0, 95, Int.ofNat 0), (0, 98, Int.ofNat 0), (0, 0, Int.ofNat 5)])] (by dsimp only [cq_L_143, al_L_143])
set_option maxRecDepth 100000 in
theorem ah_L_144 : rf_ALT cq_L_144 := rf_alt_inf [(100, [94], [(0, 112, Int.ofNat 0), (0, 113, Int.ofNat 0), (0, 96, Int.ofNat 0)]), (101, [], [(0, 38, Int.ofNat 0), (0, 39, Int.ofNat 0), (0, 40, Int.ofNat 0), (0, 41, Int.ofNat 0), (0, 96, Int.ofNat 0), (0, 97, Int.ofNat 0), (0, 0, Int.ofNat 0), (0, 114, Int.ofNat 0), (0, 0, Int.ofNat 5), (0, 113, Int.ofNat 0)]), (101, [], [(0, 42, Int.ofNat 0), (0, 43, Int.ofNat 0), (0, 44, Int.ofNat 0), (0, 45, Int.ofNat 0), (0, 96, Int.ofNat 0), (0, 97, Int.ofNat 0), (0, 0, Int.ofNat 1), (0, 114, Int.ofNat 0), (0, 0, Int.ofNat 5), (0, 113, Int.ofNat 0)]), (101, [], [(0, 46, Int.ofNat 0), (0, 47, Int.ofNat 0), (0, 48, Int.ofNat 0), (0, 49, Int.ofNat 0), (0, 96, Int.ofNat 0), (0, 97, Int.ofNat 0), (0, 0, Int.ofNat 2), (0, 114, Int.ofNat 0), (0, 0, Int.ofNat 5), (0, 113, Int.ofNat 0)]), (101, [], [(0, 50, Int.ofNat 0), (0, 51, Int.ofNat 0), (0, 52, Int.ofNat 0), (0, 53, Int.ofNat 0), (0, 96, Int.ofNat 0), (0, 97, Int.ofNat 0), (0, 0, Int.ofNat 3), (0, 114, Int.ofNat 0), (0, 0, Int.ofNat 5), (0, 113, Int.ofNat 0)]), (101, [], [(0, 54, Int.ofNat 0), (0, 55, Int.ofNat 0), (0, 56, Int.ofNat 0), (0, 57, Int.ofNat 0), (0, 96, Int.ofNat 0), (0, 97, Int.ofNat 0), (0, 0, Int.ofNat 4), (0, 114, Int.ofNat 0), (0, 0, Int.ofNat 5), (0, 113, Int.ofNat 0)]), (106, [], [(0, 0, Int.ofNat 1), (0, 113, Int.ofNat 0), (0, 60, Int.ofNat 0), (0, 0, Int.ofNat 0), (0, 96, Int.ofNat 0), (0, 97, Int.ofNat 0), (0, 0, Int.ofNat 5), (0, 114, Int.ofNat 0)]), (189, [], [(0, 0, Int.ofNat 1), (0, 0, Int.ofNat 0), (0, 95, Int.ofNat 0), (0, 98, Int.ofNat 0), (0, 0, Int.ofNat 5)])] (by dsimp only [cq_L_144, al_L_144])
set_option maxRecDepth 100000 in
theorem ah_L_145 : rf_ALT cq_L_145 := rf_alt_inf [] (by dsimp only [cq_L_145, al_L_145])
set_option maxRecDepth 100000 in
theorem ah_L_146 : rf_ALT cq_L_146 := rf_alt_self rfl
set_option maxRecDepth 100000 in
theorem ah_L_147 : rf_ALT cq_L_147 := rf_alt_split [(111, [(Int.negSucc 2147483647, Int.negSucc 0), (Int.ofNat 0, Int.ofNat 0), (Int.ofNat 1, Int.ofNat 1), (Int.ofNat 2, Int.ofNat 2), (Int.ofNat 3, Int.ofNat 3), (Int.ofNat 4, Int.ofNat 4), (Int.ofNat 5, Int.ofNat 5), (Int.ofNat 6, Int.ofNat 2147483647)])] rfl (by decide +kernel)
set_option maxRecDepth 100000 in
theorem ah_L_148 : rf_ALT cq_L_148 := rf_alt_inf [(100, [94], [(0, 0, Int.ofNat 0), (0, 117, Int.ofNat 0), (0, 96, Int.ofNat 0)]), (100, [95], [(0, 0, Int.ofNat 0), (0, 114, Int.ofNat 0), (0, 97, Int.ofNat 0)]), (105, [], [(0, 0, Int.ofNat 2), (0, 39, Int.ofNat 0), (0, 113, Int.ofNat 0), (0, 114, Int.ofNat 0), (0, 96, Int.ofNat 0), (0, 97, Int.ofNat 0), (0, 0, Int.ofNat 0), (0, 120, Int.ofNat 0), (0, 117, Int.ofNat 0), (0, 121, Int.ofNat 0)]), (102, [], [(0, 42, Int.ofNat 0), (0, 43, Int.ofNat 0), (0, 44, Int.ofNat 0), (0, 45, Int.ofNat 0), (0, 96, Int.ofNat 0), (0, 97, Int.ofNat 0), (0, 0, Int.ofNat 1), (0, 120, Int.ofNat 0), (0, 0, Int.ofNat 0), (0, 117, Int.ofNat 0)]), (104, [], [(0, 42, Int.ofNat 0), (0, 43, Int.ofNat 0), (0, 44, Int.ofNat 0), (0, 45, Int.ofNat 0), (0, 120, Int.ofNat 0), (0, 97, Int.ofNat 0), (0, 0, Int.ofNat 1), (0, 121, Int.ofNat 0), (0, 0, Int.ofNat 0), (0, 114, Int.ofNat 0)]), (102, [], [(0, 46, Int.ofNat 0), (0, 47, Int.ofNat 0), (0, 48, Int.ofNat 0), (0, 49, Int.ofNat 0), (0, 96, Int.ofNat 0), (0, 97, Int.ofNat 0), (0, 0, Int.ofNat 2), (0, 120, Int.ofNat 0), (0, 0, Int.ofNat 0), (0, 117, Int.ofNat 0)]), (104, [], [(0, 46, Int.ofNat 0), (0, 47, Int.ofNat 0), (0, 48, Int.ofNat 0), (0, 49, Int.ofNat 0), (0, 120, Int.ofNat 0), (0, 97, Int.ofNat 0), (0, 0, Int.ofNat 2), (0, 121, Int.ofNat 0), (0, 0, Int.ofNat 0), (0, 114, Int.ofNat 0)]), (102, [], [(0, 50, Int.ofNat 0), (0, 51, Int.ofNat 0), (0, 52, Int.ofNat 0), (0, 53, Int.ofNat 0), (0, 96, Int.ofNat 0), (0, 97, Int.ofNat 0), (0, 0, Int.ofNat 3), (0, 120, Int.ofNat 0), (0, 0, Int.ofNat 0), (0, 117, Int.ofNat 0)]), (104, [], [(0, 50, Int.ofNat 0), (0, 51, Int.ofNat 0), (0, 52, Int.ofNat 0), (0, 53, Int.ofNat 0), (0, 120, Int.ofNat 0), (0, 97, Int.ofNat 0), (0, 0, Int.ofNat 3), (0, 121, Int.ofNat 0), (0, 0, Int.ofNat 0), (0, 114, Int.ofNat 0)]), (102, [], [(0, 54, Int.ofNat 0), (0, 55, Int.ofNat 0), (0, 56, Int.ofNat 0), (0, 57, Int.ofNat 0), (0, 96, Int.ofNat 0), (0, 97, Int.ofNat 0), (0, 0, Int.ofNat 4), (0, 120, Int.ofNat 0), (0, 0, Int.ofNat 0), (0, 117, Int.ofNat 0)]), (104, [], [(0, 54, Int.ofNat 0), (0, 55, Int.ofNat 0), (0, 56, Int.ofNat 0), (0, 57, Int.ofNat 0), (0, 120, Int.ofNat 0), (0, 97, Int.ofNat 0), (0, 0, Int.ofNat 4), (0, 121, Int.ofNat 0), (0, 0, Int.ofNat 0), (0, 114, Int.ofNat 0)]), (102, [], [(0, 58, Int.ofNat 0), (0, 59, Int.ofNat 0), (0, 60, Int.ofNat 0), (0, 61, Int.ofNat 0), (0, 96, Int.ofNat 0), (0, 97, Int.ofNat 0), (0, 0, Int.ofNat 5), (0, 120, Int.ofNat 0), (0, 0, Int.ofNat 0), (0, 117, Int.ofNat 0)]), (104, [], [(0, 58, Int.ofNat 0), (0, 59, Int.ofNat 0), (0, 60, Int.ofNat 0), (0, 61, Int.ofNat 0), (0, 120, Int.ofNat 0), (0, 97, Int.ofNat 0), (0, 0, Int.ofNat 5), (0, 121, Int.ofNat 0), (0, 0, Int.ofNat 0), (0, 114, Int.ofNat 0)]), (153, [], []), (154, [], []), (155, [], []), (156, [], []), (157, [], []), (158, [], []), (190, [], [(0, 0, Int.ofNat 2), (0, 114, Int.ofNat 0), (0, 115, Int.ofNat 0), (0, 118, Int.ofNat 0), (0, 0, Int.ofNat 0), (0, 0, Int.ofNat 0), (0, 116, Int.ofNat 0), (0, 0, Int.ofNat 0), (0, 119, Int.ofNat 0), (0, 0, Int.ofNat 0)]), (192, [], [(0, 42, Int.ofNat 0), (0, 45, Int.ofNat 0), (0, 91, Int.ofNat 0), (0, 98, Int.ofNat 0), (0, 0, Int.ofNat 1), (0, 118, Int.ofNat 0), (0, 0, Int.ofNat 0), (0, 119, Int.ofNat 0), (0, 0, Int.ofNat 60)]), (192, [], [(0, 46, Int.ofNat 0), (0, 49, Int.ofNat 0), (0, 92, Int.ofNat 0), (0, 98, Int.ofNat 0), (0, 0, Int.ofNat 2), (0, 118, Int.ofNat 0), (0, 0, Int.ofNat 0), (0, 119, Int.ofNat 0), (0, 0, Int.ofNat 120)]), (192, [], [(0, 50, Int.ofNat 0), (0, 53, Int.ofNat 0), (0, 93, Int.ofNat 0), (0, 98, Int.ofNat 0), (0, 0, Int.ofNat 3), (0, 118, Int.ofNat 0), (0, 0, Int.ofNat 0), (0, 119, Int.ofNat 0), (0, 0, Int.ofNat 180)]), (192, [], [(0, 54, Int.ofNat 0), (0, 57, Int.ofNat 0), (0, 94, Int.ofNat 0), (0, 98, Int.ofNat 0), (0, 0, Int.ofNat 4), (0, 118, Int.ofNat 0), (0, 0, Int.ofNat 0), (0, 119, Int.ofNat 0), (0, 0, Int.ofNat 240)]), (192, [], [(0, 58, Int.ofNat 0), (0, 61, Int.ofNat 0), (0, 95, Int.ofNat 0), (0, 98, Int.ofNat 0), (0, 0, Int.ofNat 5), (0, 118, Int.ofNat 0), (0, 0, Int.ofNat 0), (0, 119, Int.ofNat 0), (0, 0, Int.ofNat 300)])] (by dsimp only [cq_L_148, al_L_148])
set_option maxRecDepth 100000 in
theorem ah_L_149 : rf_ALT cq_L_149 := rf_alt_inf [(100, [94], [(0, 0, Int.ofNat 1), (0, 117, Int.ofNat 0), (0, 96, Int.ofNat 0)]), (100, [95], [(0, 0, Int.ofNat 1), (0, 114, Int.ofNat 0), (0, 97, Int.ofNat 0)]), (101, [], [(0, 38, Int.ofNat 0), (0, 39, Int.ofNat 0), (0, 40, Int.ofNat 0), (0, 41, Int.ofNat 0), (0, 96, Int.ofNat 0), (0, 97, Int.ofNat 0), (0, 0, Int.ofNat 0), (0, 120, Int.ofNat 0), (0, 0, Int.ofNat 1), (0, 117, Int.ofNat 0)]), (103, [], [(0, 38, Int.ofNat 0), (0, 39, Int.ofNat 0), (0, 40, Int.ofNat 0), (0, 41, Int.ofNat 0), (0, 120, Int.ofNat 0), (0, 97, Int.ofNat 0), (0, 0, Int.ofNat 0), (0, 121, Int.ofNat 0), (0, 0, Int.ofNat 1), (0, 114, Int.ofNat 0)]), (105, [], [(0, 0, Int.ofNat 2), (0, 43, Int.ofNat 0), (0, 113, Int.ofNat 0), (0, 114, Int.ofNat 0), (0, 96, Int.ofNat 0), (0, 97, Int.ofNat 0), (0, 0, Int.ofNat 1), (0, 120, Int.ofNat 0), (0, 117, Int.ofNat 0), (0, 121, Int.ofNat 0)]), (102, [], [(0, 46, Int.ofNat 0), (0, 47, Int.ofNat 0), (0, 48, Int.ofNat 0), (0, 49, Int.ofNat 0), (0, 96, Int.ofNat 0), (0, 97, Int.ofNat 0), (0, 0, Int.ofNat 2), (0, 120, Int.ofNat 0), (0, 0, Int.ofNat 1), (0, 117, Int.ofNat 0)]), (104, [], [(0, 46, Int.ofNat 0), (0, 47, Int.ofNat 0), (0, 48, Int.ofNat 0), (0, 49, Int.ofNat 0), (0, 120, Int.ofNat 0), (0, 97, Int.ofNat 0), (0, 0, Int.ofNat 2), (0, 121, Int.ofNat 0), (0, 0, Int.ofNat 1), (0, 114, Int.ofNat 0)]), (102, [], [(0, 50, Int.ofNat 0), (0, 51, Int.ofNat 0), (0, 52, Int.ofNat 0), (0, 53, Int.ofNat 0), (0, 96, Int.ofNat 0), (0, 97, Int.ofNat 0), (0, 0, Int.ofNat 3), (0, 120, Int.ofNat 0), (0, 0, Int.ofNat 1), (0, 117, Int.ofNat 0)]), (104, [], [(0, 50, Int.ofNat 0), (0, 51, Int.ofNat 0), (0, 52, Int.ofNat 0), (0, 53, Int.ofNat 0), (0, 120, Int.ofNat 0), (0, 97, Int.ofNat 0), (0, 0, Int.ofNat 3), (0, 121, Int.ofNat 0), (0, 0, Int.ofNat 1), (0, 114, Int.ofNat 0)]), (102, [], [(0, 54, Int.ofNat 0), (0, 55, Int.ofNat 0), (0, 56, Int.ofNat 0), (0, 57, Int.ofNat 0), (0, 96, Int.ofNat 0), (0, 97, Int.ofNat 0), (0, 0, Int.ofNat 4), (0, 120, Int.ofNat 0), (0, 0, Int.ofNat 1), (0, 117, Int.ofNat 0)]), (104, [], [(0, 54, Int.ofNat 0), (0, 55, Int.ofNat 0), (0, 56, Int.ofNat 0), (0, 57, Int.ofNat 0), (0, 120, Int.ofNat 0), (0, 97, Int.ofNat 0), (0, 0, Int.ofNat 4), (0, 121, Int.ofNat 0), (0, 0, Int.ofNat 1), (0, 114, Int.ofNat 0)]), (102, [], [(0, 58, Int.ofNat 0), (0, 59, Int.ofNat 0), (0, 60, Int.ofNat 0), (0, 61, Int.ofNat 0), (0, 96, Int.ofNat 0), (0, 97, Int.ofNat 0), (0, 0, Int.ofNat 5), (0, 120, Int.ofNat 0), (0, 0, Int.ofNat 1), (0, 117, Int.ofNat 0)]), (104, [], [(0, 58, Int.ofNat 0), (0, 59, Int.ofNat 0), (0, 60, Int.ofNat 0), (0, 61, Int.ofNat 0), (0, 120, Int.ofNat 0), (0, 97, Int.ofNat 0), (0, 0, Int.ofNat 5), (0, 121, Int.ofNat 0), (0, 0, Int.ofNat 1), (0, 114, Int.ofNat 0)]), (153, [], []), (154, [], []), (155, [], []), (156, [], []), (157, [], []), (158, [], []), (190, [], [(0, 0, Int.ofNat 2), (0, 114, Int.ofNat 0), (0, 115, Int.ofNat 0), (0, 118, Int.ofNat 0), (0, 0, Int.ofNat 1), (0, 0, Int.ofNat 0), (0, 116, Int.ofNat 0), (0, 0, Int.ofNat 60), (0, 119, Int.ofNat 0), (0, 0, Int.ofNat 60)]), (191, [], [(0, 38, Int.ofNat 0), (0, 41, Int.ofNat 0), (0, 90, Int.ofNat 0), (0, 98, Int.ofNat 0), (0, 0, Int.ofNat 0), (0, 118, Int.ofNat 0), (0, 0, Int.ofNat 60), (0, 119, Int.ofNat 0), (0, 0, Int.ofNat 0)]), (192, [], [(0, 46, Int.ofNat 0), (0, 49, Int.ofNat 0), (0, 92, Int.ofNat 0), (0, 98, Int.ofNat 0), (0, 0, Int.ofNat 2), (0, 118, Int.ofNat 0), (0, 0, Int.ofNat 60), (0, 119, Int.ofNat 0), (0, 0, Int.ofNat 120)]), (192, [], [(0, 50, Int.ofNat 0), (0, 53, Int.ofNat 0), (0, 93, Int.ofNat 0), (0, 98, Int.ofNat 0), (0, 0, Int.ofNat 3), (0, 118, Int.ofNat 0), (0, 0, Int.ofNat 60), (0, 119, Int.ofNat 0), (0, 0, Int.ofNat 180)]), (192, [], [(0, 54, Int.ofNat 0), (0, 57, Int.ofNat 0), (0, 94, Int.ofNat 0), (0, 98, Int.ofNat 0), (0, 0, Int.ofNat 4), (0, 118, Int.ofNat 0), (0, 0, Int.ofNat 60), (0, 119, Int.ofNat 0), (0, 0, Int.ofNat 240)]), (192, [], [(0, 58, Int.ofNat 0), (0, 61, Int.ofNat 0), (0, 95, Int.ofNat 0), (0, 98, Int.ofNat 0), (0, 0, Int.ofNat 5), (0, 118, Int.ofNat 0), (0, 0, Int.ofNat 60), (0, 119, Int.ofNat 0), (0, 0, Int.ofNat 300)])] (by dsimp only [cq_L_149, al_L_149])
set_option maxRecDepth 100000 in
theorem ah_L_150 : rf_ALT cq_L_150 := rf_alt_inf [(100, [94], [(0, 0, Int.ofNat 2), (0, 117, Int.ofNat 0), (0, 96, Int.ofNat 0)]), (100, [95], [(0, 0, Int.ofNat 2), (0, 114, Int.ofNat 0), (0, 97, Int.ofNat 0)]), (101, [], [(0, 38, Int.ofNat 0), (0, 39, Int.ofNat 0), (0, 40, Int.ofNat 0), (0, 41, Int.ofNat 0), (0, 96, Int.ofNat 0), (0, 97, Int.ofNat 0), (0, 0, Int.ofNat 0), (0, 120, Int.ofNat 0), (0, 0, Int.ofNat 2), (0, 117, Int.ofNat 0)]), (103, [], [(0, 38, Int.ofNat 0), (0, 39, Int.ofNat 0), (0, 40, Int.ofNat 0), (0, 41, Int.ofNat 0), (0, 120, Int.ofNat 0), (0, 97, Int.ofNat 0), (0, 0, Int.ofNat 0), (0, 121, Int.ofNat 0), (0, 0, Int.ofNat 2), (0, 114, Int.ofNat 0)]), (101, [], [(0, 42, Int.ofNat 0), (0, 43, Int.ofNat 0), (0, 44, Int.ofNat 0), (0, 45, Int.ofNat 0), (0, 96, Int.ofNat 0), (0, 97, Int.ofNat 0), (0, 0, Int.ofNat 1), (0, 120, Int.ofNat 0), (0, 0, Int.ofNat 2), (0, 117, Int.ofNat 0)]), (103, [], [(0, 42, Int.ofNat 0), (0, 43, Int.ofNat 0), (0, 44, Int.ofNat 0), (0, 45, Int.ofNat 0), (0, 120, Int.ofNat 0), (0, 97, Int.ofNat 0), (0, 0, Int.ofNat 1), (0, 121, Int.ofNat 0), (0, 0, Int.ofNat 2), (0, 114, Int.ofNat 0)]), (105, [], [(0, 0, Int.ofNat 2), (0, 47, Int.ofNat 0), (0, 113, Int.ofNat 0), (0, 114, Int.ofNat 0), (0, 96, Int.ofNat 0), (0, 97, Int.ofNat 0), (0, 0, Int.ofNat 2), (0, 120, Int.ofNat 0), (0, 117, Int.ofNat 0), (0, 121, Int.ofNat 0)]), (102, [], [(0, 50, Int.ofNat 0), (0, 51, Int.ofNat 0), (0, 52, Int.ofNat 0), (0, 53, Int.ofNat 0), (0, 96, Int.ofNat 0), (0, 97, Int.ofNat 0), (0, 0, Int.ofNat 3), (0, 120, Int.ofNat 0), (0, 0, Int.ofNat 2), (0, 117, Int.ofNat 0)]), (104, [], [(0, 50, Int.ofNat 0), (0, 51, Int.ofNat 0), (0, 52, Int.ofNat 0), (0, 53, Int.ofNat 0), (0, 120, Int.ofNat 0), (0, 97, Int.ofNat 0), (0, 0, Int.ofNat 3), (0, 121, Int.ofNat 0), (0, 0, Int.ofNat 2), (0, 114, Int.ofNat 0)]), (102, [], [(0, 54, Int.ofNat 0), (0, 55, Int.ofNat 0), (0, 56, Int.ofNat 0), (0, 57, Int.ofNat 0), (0, 96, Int.ofNat 0), (0, 97, Int.ofNat 0), (0, 0, Int.ofNat 4), (0, 120, Int.ofNat 0), (0, 0, Int.ofNat 2), (0, 117, Int.ofNat 0)]), (104, [], [(0, 54, Int.ofNat 0), (0, 55, Int.ofNat 0), (0, 56, Int.ofNat 0), (0, 57, Int.ofNat 0), (0, 120, Int.ofNat 0), (0, 97, Int.ofNat 0), (0, 0, Int.ofNat 4), (0, 121, Int.ofNat 0), (0, 0, Int.ofNat 2), (0, 114, Int.ofNat 0)]), (102, [], [(0, 58, Int.ofNat 0), (0, 59, Int.ofNat 0), (0, 60, Int.ofNat 0), (0, 61, Int.ofNat 0), (0, 96, Int.ofNat 0), (0, 97, Int.ofNat 0), (0, 0, Int.ofNat 5), (0, 120, Int.ofNat 0), (0, 0, Int.ofNat 2), (0, 117, Int.ofNat 0)]), (104, [], [(0, 58, Int.ofNat 0), (0, 59, Int.ofNat 0), (0, 60, Int.ofNat 0), (0, 61, Int.ofNat 0), (0, 120, Int.ofNat 0), (0, 97, Int.ofNat 0), (0, 0, Int.ofNat 5), (0, 121, Int.ofNat 0), (0, 0, Int.ofNat 2), (0, 114, Int.ofNat 0)]), (153, [], []), (154, [], []), (155, [], []), (156, [], []), (157, [], []), (158, [], []), (190, [], [(0, 0, Int.ofNat 2), (0, 114, Int.ofNat 0), (0, 115, Int.ofNat 0), (0, 118, Int.ofNat 0), (0, 0, Int.ofNat 2), (0, 0, Int.ofNat 0), (0, 116, Int.ofNat 0), (0, 0, Int.ofNat 120), (0, 119, Int.ofNat 0), (0, 0, Int.ofNat 120)]), (191, [], [(0, 38, Int.ofNat 0), (0, 41, Int.ofNat 0), (0, 90, Int.ofNat 0), (0, 98, Int.ofNat 0), (0, 0, Int.ofNat 0), (0, 118, Int.ofNat 0), (0, 0, Int.ofNat 120), (0, 119, Int.ofNat 0), (0, 0, Int.ofNat 0)]), (191, [], [(0, 42, Int.ofNat 0), (0, 45, Int.ofNat 0), (0, 91, Int.ofNat 0), (0, 98, Int.ofNat 0), (0, 0, Int.ofNat 1), (0, 118, Int.ofNat 0), (0, 0, Int.ofNat 120), (0, 119, Int.ofNat 0), (0, 0, Int.ofNat 60)]), (192, [], [(0, 50, Int.ofNat 0), (0, 53, Int.ofNat 0), (0, 93, Int.ofNat 0), (0, 98, Int.ofNat 0), (0, 0, Int.ofNat 3), (0, 118, Int.ofNat 0), (0, 0, Int.ofNat 120), (0, 119, Int.ofNat 0), (0, 0, Int.ofNat 180)]), (192, [], [(0, 54, Int.ofNat 0), (0, 57, Int.ofNat 0), (0, 94, Int.ofNat 0), (0, 98, Int.ofNat 0), (0, 0, Int.ofNat 4), (0, 118, Int.ofNat 0), (0, 0, Int.ofNat 120), (0, 119, Int.ofNat 0), (0, 0, Int.ofNat 240)]), (192, [], [(0, 58, Int.ofNat 0), (0, 61, Int.ofNat 0), (0, 95, Int.ofNat 0), (0, 98, Int.ofNat 0), (0, 0, Int.ofNat 5), (0, 118, Int.ofNat 0), (0, 0, Int.ofNat 120), (0, 119, Int.ofNat 0), (0, 0, Int.ofNat 300)])] (by dsimp only [cq_L_150, al_L_150])
set_option maxRecDepth 100000 in
theorem ah_L_151 : rf_ALT cq_L_151 := rf_alt_inf [(100, [94], [(0, 0, Int.ofNat 3), (0, 117, Int.ofNat 0), (0, 96, Int.ofNat 0)]), (100, [95], [(0, 0, Int.ofNat 3), (0, 114, Int.ofNat 0), (0, 97, Int.ofNat 0)]), (101, [], [(0, 38, Int.ofNat 0), (0, 39, Int.ofNat 0), (0, 40, Int.ofNat 0), (0, 41, Int.ofNat 0), (0, 96, Int.ofNat 0), (0, 97, Int.ofNat 0), (0, 0, Int.ofNat 0), (0, 120, Int.ofNat 0), (0, 0, Int.ofNat 3), (0, 117, Int.ofNat 0)]), (103, [], [(0, 38, Int.ofNat 0), (0, 39, Int.ofNat 0), (0, 40, Int.ofNat 0), (0, 41, Int.ofNat 0), (0, 120, Int.ofNat 0), (0, 97, Int.ofNat 0), (0, 0, Int.ofNat 0), (0, 121, Int.ofNat 0), (0, 0, Int.ofNat 3), (0, 114, Int.ofNat 0)]), (101, [], [(0, 42, Int.ofNat 0), (0, 43, Int.ofNat 0), (0, 44, Int.ofNat 0), (0, 45, Int.ofNat 0), (0, 96, Int.ofNat 0), (0, 97, Int.ofNat 0), (0, 0, Int.ofNat 1), (0, 120, Int.ofNat 0), (0, 0, Int.ofNat 3), (0, 117, Int.ofNat 0)]), (103, [], [(0, 42, Int.ofNat 0), (0, 43, Int.ofNat 0), (0, 44, Int.ofNat 0), (0, 45, Int.ofNat 0), (0, 120, Int.ofNat 0), (0, 97, Int.ofNat 0), (0, 0, Int.ofNat 1), (0, 121, Int.ofNat 0), (0, 0, Int.ofNat 3), (0, 114, Int.ofNat 0)]), (101, [], [(0, 46, Int.ofNat 0), (0, 47, Int.ofNat 0), (0, 48, Int.ofNat 0), (0, 49, Int.ofNat 0), (0, 96, Int.ofNat 0), (0, 97, Int.ofNat 0), (0, 0, Int.ofNat 2), (0, 120, Int.ofNat 0), (0, 0, Int.ofNat 3), (0, 117, Int.ofNat 0)]), (103, [], [(0, 46, Int.ofNat 0), (0, 47, Int.ofNat 0), (0, 48, Int.ofNat 0), (0, 49, Int.ofNat 0), (0, 120, Int.ofNat 0), (0, 97, Int.ofNat 0), (0, 0, Int.ofNat 2), (0, 121, Int.ofNat 0), (0, 0, Int.ofNat 3), (0, 114, Int.ofNat 0)]), (105, [], [(0, 0, Int.ofNat 2), (0, 51, Int.ofNat 0), (0, 113, Int.ofNat 0), (0, 114, Int.ofNat 0), (0, 96, Int.ofNat 0), (0, 97, Int.ofNat 0), (0, 0, Int.ofNat 3), (0, 120, Int.ofNat 0), (0, 117, Int.ofNat 0), (0, 121, Int.ofNat 0)]), (102, [], [(0, 54, Int.ofNat 0), (0, 55, Int.ofNat 0), (0, 56, Int.ofNat 0), (0, 57, Int.ofNat 0), (0, 96, Int.ofNat 0), (0, 97, Int.ofNat 0), (0, 0, Int.ofNat 4), (0, 120, Int.ofNat 0), (0, 0, Int.ofNat 3), (0, 117, Int.ofNat 0)]), (104, [], [(0, 54, Int.ofNat 0), (0, 55, Int.ofNat 0), (0, 56, Int.ofNat 0), (0, 57, Int.ofNat 0), (0, 120, Int.ofNat 0), (0, 97, Int.ofNat 0), (0, 0, Int.ofNat 4), (0, 121, Int.ofNat 0), (0, 0, Int.ofNat 3), (0, 114, Int.ofNat 0)]), (102, [], [(0, 58, Int.ofNat 0), (0, 59, Int.ofNat 0), (0, 60, Int.ofNat 0), (0, 61, Int.ofNat 0), (0, 96, Int.ofNat 0), (0, 97, Int.ofNat 0), (0, 0, Int.ofNat 5), (0, 120, Int.ofNat 0), (0, 0, Int.ofNat 3), (0, 117, Int.ofNat 0)]), (104, [], [(0, 58, Int.ofNat 0), (0, 59, Int.ofNat 0), (0, 60, Int.ofNat 0), (0, 61, Int.ofNat 0), (0, 120, Int.ofNat 0), (0, 97, Int.ofNat 0), (0, 0, Int.ofNat 5), (0, 121, Int.ofNat 0), (0, 0, Int.ofNat 3), (0, 114, Int.ofNat 0)]), (153, [], []), (154, [], []), (155, [], []), (156, [], []), (157, [], []), (158, [], []), (190, [], [(0, 0, Int.ofNat 2), (0, 114, Int.ofNat 0), (0, 115, Int.ofNat 0), (0, 118, Int.ofNat 0), (0, 0, Int.ofNat 3), (0, 0, Int.ofNat 0), (0, 116, Int.ofNat 0), (0, 0, Int.ofNat 180), (0, 119, Int.ofNat 0), (0, 0, Int.ofNat 180)]), (191, [], [(0, 38, Int.ofNat 0), (0, 41, Int.ofNat 0), (0, 90, Int.ofNat 0), (0, 98, Int.ofNat 0), (0, 0, Int.ofNat 0), (0, 118, Int.ofNat 0), (0, 0, Int.ofNat 180), (0, 119, Int.ofNat 0), (0, 0, Int.ofNat 0)]), (191, [], [(0, 42, Int.ofNat 0), (0, 45, Int.ofNat 0), (0, 91, Int.ofNat 0), (0, 98, Int.ofNat 0), (0, 0, Int.ofNat 1), (0, 118, Int.ofNat 0), (0, 0, Int.ofNat 180), (0, 119, Int.ofNat 0), (0, 0, Int.ofNat 60)]), (191, [], [(0, 46, Int.ofNat 0), (0, 49, Int.ofNat 0), (0, 92, Int.ofNat 0), (0, 98, Int.ofNat 0), (0, 0, Int.ofNat 2), (0, 118, Int.ofNat 0), (0, 0, Int.ofNat 180), (0, 119, Int.ofNat 0), (0, 0, Int.ofNat 120)]), (192, [], [(0, 54, Int.ofNat 0), (0, 57, Int.ofNat 0), (0, 94, Int.ofNat 0), (0, 98, Int.ofNat 0), (0, 0, Int.ofNat 4), (0, 118, Int.ofNat 0), (0, 0, Int.ofNat 180), (0, 119, Int.ofNat 0), (0, 0, Int.ofNat 240)]), (192, [], [(0, 58, Int.ofNat 0), (0, 61, Int.ofNat 0), (0, 95, Int.ofNat 0), (0, 98, Int.ofNat 0), (0, 0, Int.ofNat 5), (0, 118, Int.ofNat 0), (0, 0, Int.ofNat 180), (0, 119, Int.ofNat 0), (0, 0, Int.ofNat 300)])] (by dsimp only [cq_L_151, al_L_151])
set_option maxRecDepth 100000 in
theorem ah_L_152 : rf_ALT cq_L_152 := rf_alt_inf [(100, [94], [(0, 0, Int.ofNat 4), (0, 117, Int.ofNat 0), (0, 96, Int.ofNat 0)]), (100, [95], [(0, 0, Int.ofNat 4), (0, 114, Int.ofNat 0), (0, 97, Int.ofNat 0)]), (101, [], [(0, 38, Int.ofNat 0), (0, 39, Int.ofNat 0), (0, 40, Int.ofNat 0), (0, 41, Int.ofNat 0), (0, 96, Int.ofNat 0), (0, 97, Int.ofNat 0), (0, 0, Int.ofNat 0), (0, 120, Int.ofNat 0), (0, 0, Int.ofNat 4), (0, 117, Int.ofNat 0)]), (103, [], [(0, 38, Int.ofNat 0), (0, 39, Int.ofNat 0), (0, 40, Int.ofNat 0), (0, 41, Int.ofNat 0), (0, 120, Int.ofNat 0), (0, 97, Int.ofNat 0), (0, 0, Int.ofNat 0), (0, 121, Int.ofNat 0), (0, 0, Int.ofNat 4), (0, 114, Int.ofNat 0)]), (101, [], [(0, 42, Int.ofNat 0), (0, 43, Int.ofNat 0), (0, 44, Int.ofNat 0), (0, 45, Int.ofNat 0), (0, 96, Int.ofNat 0), (0, 97, Int.ofNat 0), (0, 0, Int.ofNat 1), (0, 120, Int.ofNat 0), (0, 0, Int.ofNat 4), (0, 117, Int.ofNat 0)]), (103, [], [(0, 42, Int.ofNat 0), (0, 43, Int.ofNat 0), (0, 44, Int.ofNat 0), (0, 45, Int.ofNat 0), (0, 120, Int.ofNat 0), (0, 97, Int.ofNat 0), (0, 0, Int.ofNat 1), (0, 121, Int.ofNat 0), (0, 0, Int.ofNat 4), (0, 114, Int.ofNat 0)]), (101, [], [(0, 46, Int.ofNat 0), (0, 47, Int.ofNat 0), (0, 48, Int.ofNat 0), (0, 49, Int.ofNat 0), (0, 96, Int.ofNat 0), (0, 97, Int.ofNat 0), (0, 0, Int.ofNat 2), (0, 120, Int.ofNat 0), (0, 0, Int.ofNat 4), (0, 117, Int.ofNat 0)]), (103, [], [(0, 46, Int.ofNat 0), (0, 47, Int.ofNat 0), (0, 48, Int.ofNat 0), (0, 49, Int.ofNat 0), (0, 120, Int.ofNat 0), (0, 97, Int.ofNat 0), (0, 0, Int.ofNat 2), (0, 121, Int.ofNat 0), (0, 0, Int.ofNat 4), (0, 114, Int.ofNat 0)]), (101, [], [(0, 50, Int.ofNat 0), (0, 51, Int.ofNat 0), (0, 52, Int.ofNat 0), (0, 53, Int.ofNat 0), (0, 96, Int.ofNat 0), (0, 97, Int.ofNat 0), (0, 0, Int.ofNat 3), (0, 120, Int.ofNat 0), (0, 0, Int.ofNat 4), (0, 117, Int.ofNat 0)]), (103, [], [(0, 50, Int.ofNat 0), (0, 51, Int.ofNat 0), (0, 52, Int.ofNat 0), (0, 53, Int.ofNat 0), (0, 120, Int.ofNat 0), (0, 97, Int.ofNat 0), (0, 0, Int.ofNat 3), (0, 121, Int.ofNat 0), (0, 0, Int.ofNat 4), (0, 114, Int.ofNat 0)]), (105, [], [(0, 0, Int.ofNat 2), (0, 55, Int.ofNat 0), (0, 113, Int.ofNat 0), (0, 114, Int.ofNat 0), (0, 96, Int.ofNat 0), (0, 97, Int.ofNat 0), (0, 0, Int.ofNat 4), (0, 120, Int.ofNat 0), (0, 117, Int.ofNat 0), (0, 121, Int.ofNat 0)]), (102, [], [(0, 58, Int.ofNat 0), (0, 59, Int.ofNat 0), (0, 60, Int.ofNat 0), (0, 61, Int.ofNat 0), (0, 96, Int.ofNat 0), (0, 97, Int.ofNat 0), (0, 0, Int.ofNat 5), (0, 120, Int.ofNat 0), (0, 0, Int.ofNat 4), (0, 117, Int.ofNat 0)]), (104, [], [(0, 58, Int.ofNat 0), (0, 59, Int.ofNat 0), (0, 60, Int.ofNat 0), (0, 61, Int.ofNat 0), (0, 120, Int.ofNat 0), (0, 97, Int.ofNat 0), (0, 0, Int.ofNat 5), (0, 121, Int.ofNat 0), (0, 0, Int.ofNat 4), (0, 114, Int.ofNat 0)]), (153, [], []), (154, [], []), (155, [], []), (156, [], []), (157, [], []), (158, [], []), (190, [], [(0, 0, Int.ofNat 2), (0, 114, Int.ofNat 0), (0, 115, Int.ofNat 0), (0, 118, Int.ofNat 0), (0, 0, Int.ofNat 4), (0, 0, Int.ofNat 0), (0, 116, Int.ofNat 0), (0, 0, Int.ofNat 240), (0, 119, Int.ofNat 0), (0, 0, Int.ofNat 240)]), (191, [], [(0, 38, Int.ofNat 0), (0, 41, Int.ofNat 0), (0, 90, Int.ofNat 0), (0, 98, Int.ofNat 0), (0, 0, Int.ofNat 0), (0, 118, Int.ofNat 0), (0, 0, Int.ofNat 240), (0, 119, Int.ofNat 0), (0, 0, Int.ofNat 0)]), (191, [], [(0, 42, Int.ofNat 0), (0, 45, Int.ofNat 0), (0, 91, Int.ofNat 0), (0, 98, Int.ofNat 0), (0, 0, Int.ofNat 1), (0, 118, Int.ofNat 0), (0, 0, Int.ofNat 240), (0, 119, Int.ofNat 0), (0, 0, Int.ofNat 60)]), (191, [], [(0, 46, Int.ofNat 0), (0, 49, Int.ofNat 0), (0, 92, Int.ofNat 0), (0, 98, Int.ofNat 0), (0, 0, Int.ofNat 2), (0, 118, Int.ofNat 0), (0, 0, Int.ofNat 240), (0, 119, Int.ofNat 0), (0, 0, Int.ofNat 120)]), (191, [], [(0, 50, Int.ofNat 0), (0, 53, Int.ofNat 0), (0, 93, Int.ofNat 0), (0, 98, Int.ofNat 0), (0, 0, Int.ofNat 3), (0, 118, Int.ofNat 0), (0, 0, Int.ofNat 240), (0, 119, Int.ofNat 0), (0, 0, Int.ofNat 180)]), (192, [], [(0, 58, Int.ofNat 0), (0, 61, Int.ofNat 0), (0, 95, Int.ofNat 0), (0, 98, Int.ofNat 0), (0, 0, Int.ofNat 5), (0, 118, Int.ofNat 0), (0, 0, Int.ofNat 240), (0, 119, Int.ofNat 0), (0, 0, Int.ofNat 300)])] (by dsimp only [cq_L_152, al_L_152])
set_option maxRecDepth 100000 in
theorem ah_L_153 : rf_ALT cq_L_153 := rf_alt_inf [(100, [94], [(0, 0, Int.ofNat 5), (0, 117, Int.ofNat 0), (0, 96, Int.ofNat 0)]), (100, [95], [(0, 0, Int.ofNat 5), (0, 114, Int.ofNat 0), (0, 97, Int.ofNat 0)]), (101, [], [(0, 38, Int.ofNat 0), (0, 39, Int.ofNat 0), (0, 40, Int.ofNat 0), (0, 41, Int.ofNat 0), (0, 96, Int.ofNat 0), (0, 97, Int.ofNat 0), (0, 0, Int.ofNat 0), (0, 120, Int.ofNat 0), (0, 0, Int.ofNat 5), (0, 117, Int.ofNat 0)]), (103, [], [(0, 38, Int.ofNat 0), (0, 39, Int.ofNat 0), (0, 40, Int.ofNat 0), (0, 41, Int.ofNat 0), (0, 120, Int.ofNat 0), (0, 97, Int.ofNat 0), (0, 0, Int.ofNat 0), (0, 121, Int.ofNat 0), (0, 0, Int.ofNat 5), (0, 114, Int.ofNat 0)]), (101, [], [(0, 42, Int.ofNat 0), (0, 43, Int.ofNat 0), (0, 44, Int.ofNat 0), (0, 45, Int.ofNat 0), (0, 96, Int.ofNat 0), (0, 97, Int.ofNat 0), (0, 0, Int.ofNat 1), (0, 120, Int.ofNat 0), (0, 0, Int.ofNat 5), (0, 117, Int.ofNat 0)]), (103, [], [(0, 42, Int.ofNat 0), (0, 43, Int.ofNat 0), (0, 44, Int.ofNat 0), (0, 45, Int.ofNat 0), (0, 120, Int.ofNat 0), (0, 97, Int.ofNat 0), (0, 0, Int.ofNat 1), (0, 121, Int.ofNat 0), (0, 0, Int.ofNat 5), (0, 114, Int.ofNat 0)]), (101, [], [(0, 46, Int.ofNat 0), (0, 47, Int.ofNat 0), (0, 48, Int.ofNat 0), (0, 49, Int.ofNat 0), (0, 96, Int.ofNat 0), (0, 97, Int.ofNat 0), (0, 0, Int.ofNat 2), (0, 120, Int.ofNat 0), (0, 0, Int.ofNat 5), (0, 117, Int.ofNat 0)]), (103, [], [(0, 46, Int.ofNat 0), (0, 47, Int.ofNat 0), (0, 48, Int.ofNat 0), (0, 49, Int.ofNat 0), (0, 120, Int.ofNat 0), (0, 97, Int.ofNat 0), (0, 0, Int.ofNat 2), (0, 121, Int.ofNat 0), (0, 0, Int.ofNat 5), (0, 114, Int.ofNat 0)]), (101, [], [(0, 50, Int.ofNat 0), (0, 51, Int.ofNat 0), (0, 52, Int.ofNat 0), (0, 53, Int.ofNat 0), (0, 96, Int.ofNat 0), (0, 97, Int.ofNat 0), (0, 0, Int.ofNat 3), (0, 120, Int.ofNat 0), (0, 0, Int.ofNat 5), (0, 117, Int.ofNat 0)]), (103, [], [(0, 50, Int.ofNat 0), (0, 51, Int.ofNat 0), (0, 52, Int.ofNat 0), (0, 53, Int.ofNat 0), (0, 120, Int.ofNat 0), (0, 97, Int.ofNat 0), (0, 0, Int.ofNat 3), (0, 121, Int.ofNat 0), (0, 0, Int.ofNat 5), (0, 114, Int.ofNat 0)]), (101, [], [(0, 54, Int.ofNat 0), (0, 55, Int.ofNat 0), (0, 56, Int.ofNat 0), (0, 57, Int.ofNat 0), (0, 96, Int.ofNat 0), (0, 97, Int.ofNat 0), (0, 0, Int.ofNat 4), (0, 120, Int.ofNat 0), (0, 0, Int.ofNat 5), (0, 117, Int.ofNat 0)]), (103, [], [(0, 54, Int.ofNat 0), (0, 55, Int.ofNat 0), (0, 56, Int.ofNat 0), (0, 57, Int.ofNat 0), (0, 120, Int.ofNat 0), (0, 97, Int.ofNat 0), (0, 0, Int.ofNat 4), (0, 121, Int.ofNat 0), (0, 0, Int.ofNat 5), (0, 114, Int.ofNat 0)]), (105, [], [(0, 0, Int.ofNat 2), (0, 59, Int.ofNat 0), (0, 113, Int.ofNat 0), (0, 114, Int.ofNat 0), (0, 96, Int.ofNat 0), (0, 97, Int.ofNat 0), (0, 0, Int.ofNat 5), (0, 120, Int.ofNat 0), (0, 117, Int.ofNat 0), (0, 121, Int.ofNat 0)]), (153, [], []), (154, [], []), (155, [], []), (156, [], []), (157, [], []), (158, [], []), (190, [], [(0, 0, Int.ofNat 2), (0, 114, Int.ofNat 0), (0, 115, Int.ofNat 0), (0, 118, Int.ofNat 0), (0, 0, Int.ofNat 5), (0, 0, Int.ofNat 0), (0, 116, Int.ofNat 0), (0, 0, Int.ofNat 300), (0, 119, Int.ofNat 0), (0, 0, Int.ofNat 300)]), (191, [], [(0, 38, Int.ofNat 0), (0, 41, Int.ofNat 0), (0, 90, Int.ofNat 0), (0, 98, Int.ofNat 0), (0, 0, Int.ofNat 0), (0, 118, Int.ofNat 0), (0, 0, Int.ofNat 300), (0, 119, Int.ofNat 0), (0, 0, Int.ofNat 0)]), (191, [], [(0, 42, Int.ofNat 0), (0, 45, Int.ofNat 0), (0, 91, Int.ofNat 0), (0, 98, Int.ofNat 0), (0, 0, Int.ofNat 1), (0, 118, Int.ofNat 0), (0, 0, Int.ofNat 300), (0, 119, Int.ofNat 0), (0, 0, Int.ofNat 60)]), (191, [], [(0, 46, Int.ofNat 0), (0, 49, Int.ofNat 0), (0, 92, Int.ofNat 0), (0, 98, Int.ofNat 0), (0, 0, Int.ofNat 2), (0, 118, Int.ofNat 0), (0, 0, Int.ofNat 300), (0, 119, Int.ofNat 0), (0, 0, Int.ofNat 120)]), (191, [], [(0, 50, Int.ofNat 0), (0, 53, Int.ofNat 0), (0, 93, Int.ofNat 0), (0, 98, Int.ofNat 0), (0, 0, Int.ofNat 3), (0, 118, Int.ofNat 0), (0, 0, Int.ofNat 300), (0, 119, Int.ofNat 0), (0, 0, Int.ofNat 180)]), (191, [], [(0, 54, Int.ofNat 0), (0, 57, Int.ofNat 0), (0, 94, Int.ofNat 0), (0, 98, Int.ofNat 0), (0, 0, Int.ofNat 4), (0, 118, Int.ofNat 0), (0, 0, Int.ofNat 300), (0, 119, Int.ofNat 0), (0, 0, Int.ofNat 240)])] (by dsimp only [cq_L_153, al_L_153])
set_option maxRecDepth 100000 in
theorem ah_L_154 : rf_ALT cq_L_154 := rf_alt_inf [] (by dsimp only [cq_L_154, al_L_154])
set_option maxRecDepth 100000 in
theorem ah_L_155 : rf_ALT cq_L_155 := rf_alt_inf [] (by dsimp only [cq_L_155, al_L_155])
set_option maxRecDepth 100000 in
theorem ah_L_156 : rf_ALT cq_L_156 := rf_alt_self rfl
set_option maxRecDepth 100000 in
theorem ah_L_157 : rf_ALT cq_L_157 := rf_alt_self rfl
set_option maxRecDepth 100000 in
theorem ah_L_158 : rf_ALT cq_L_158 := rf_alt_self rfl
set_option maxRecDepth 100000 in
theorem ah_L_159 : rf_ALT cq_L_159 := rf_alt_self rfl
set_option maxRecDepth 100000 in
theorem ah_L_160 : rf_ALT cq_L_160 := rf_alt_self rfl
set_option maxRecDepth 100000 in
theorem ah_L_161 : rf_ALT cq_L_161 := rf_alt_self rfl
set_option maxRecDepth 100000 in
theorem ah_L_162 : rf_ALT cq_L_162 := rf_alt_self rfl
set_option maxRecDepth 100000 in
theorem ah_L_163 : rf_ALT cq_L_163 := rf_alt_self rfl
set_option maxRecDepth 100000 in
theorem ah_L_164 : rf_ALT cq_L_164 := rf_alt_self rfl
set_option maxRecDepth 100000 in
theorem ah_L_165 : rf_ALT cq_L_165 := rf_alt_self rfl
set_option maxRecDepth 100000 in
theorem ah_L_166 : rf_ALT cq_L_166 := rf_alt_self rfl
set_option maxRecDepth 100000 in
theorem ah_L_167 : rf_ALT cq_L_167 := rf_alt_self rfl
set_option maxRecDepth 100000 in
theorem ah_L_168 : rf_ALT cq_L_168 := rf_alt_self rfl
set_option maxRecDepth 100000 in
theorem ah_L_169 : rf_ALT cq_L_169 := rf_alt_inf [] (by dsimp only [cq_L_169, al_L_169])
set_option maxRecDepth 100000 in
theorem ah_L_170 : rf_ALT cq_L_170 := rf_alt_inf [] (by dsimp only [cq_L_170, al_L_170])
set_option maxRecDepth 100000 in
theorem ah_L_171 : rf_ALT cq_L_171 := rf_alt_inf [] (by dsimp only [cq_L_171, al_L_171])
set_option maxRecDepth 100000 in
theorem ah_L_172 : rf_ALT cq_L_172 := rf_alt_inf [] (by dsimp only [cq_L_172, al_L_172])
set_option maxRecDepth 100000 in
theorem ah_L_173 : rf_ALT cq_L_173 := rf_alt_inf [] (by dsimp only [cq_L_173, al_L_173])
set_option maxRecDepth 100000 in
theorem ah_L_174 : rf_ALT cq_L_174 := rf_alt_inf [] (by dsimp only [cq_L_174, al_L_174])
set_option maxRecDepth 100000 in
theorem ah_L_175 : rf_ALT cq_L_175 := rf_alt_inf [(136, [], [(0, 0, Int.ofNat 9), (0, 116, Int.ofNat 0), (0, 0, Int.ofNat 4294967295), (0, 116, Int.ofNat 0), (0, 0, Int.ofNat 4294967295), (0, 122, Int.ofNat 0), (0, 117, Int.ofNat 0)]), (136, [], [(0, 0, Int.ofNat 8), (0, 114, Int.ofNat 0), (0, 0, Int.ofNat 32), (0, 114, Int.ofNat 0), (0, 0, Int.ofNat 32), (0, 121, Int.ofNat 0), (0, 115, Int.ofNat 0)]), (136, [], [(0, 0, Int.ofNat 10), (0, 121, Int.ofNat 0), (0, 122, Int.ofNat 0), (0, 115, Int.ofNat 0), (0, 117, Int.ofNat 0), (0, 123, Int.ofNat 0), (0, 118, Int.ofNat 0)]), (182, [], [(0, 40, Int.ofNat 0), (0, 120, Int.ofNat 0), (0, 126, Int.ofNat 0)]), (181, [], [(0, 126, Int.ofNat 0), (0, 123, Int.ofNat 0), (0, 125, Int.ofNat 0), (0, 40, Int.ofNat 0), (0, 118, Int.ofNat 0), (0, 119, Int.ofNat 0)]), (100, [48], [(0, 113, Int.ofNat 0), (0, 119, Int.ofNat 0), (0, 90, Int.ofNat 0)]), (100, [96], [(0, 124, Int.ofNat 0), (0, 125, Int.ofNat 0), (0, 98, Int.ofNat 0)]), (186, [], [(0, 38, Int.ofNat 0), (0, 41, Int.ofNat 0), (0, 90, Int.ofNat 0), (0, 98, Int.ofNat 0), (0, 0, Int.ofNat 0), (0, 128, Int.ofNat 0), (0, 113, Int.ofNat 0), (0, 119, Int.ofNat 0), (0, 129, Int.ofNat 0), (0, 124, Int.ofNat 0), (0, 125, Int.ofNat 0), (0, 112, Int.ofNat 0), (0, 127, Int.ofNat 0)]), (188, [], [(0, 42, Int.ofNat 0), (0, 45, Int.ofNat 0), (0, 91, Int.ofNat 0), (0, 98, Int.ofNat 0), (0, 0, Int.ofNat 1), (0, 129, Int.ofNat 0), (0, 124, Int.ofNat 0), (0, 125, Int.ofNat 0), (0, 112, Int.ofNat 0), (0, 127, Int.ofNat 0), (0, 113, Int.ofNat 0)]), (188, [], [(0, 46, Int.ofNat 0), (0, 49, Int.ofNat 0), (0, 92, Int.ofNat 0), (0, 98, Int.ofNat 0), (0, 0, Int.ofNat 2), (0, 129, Int.ofNat 0), (0, 124, Int.ofNat 0), (0, 125, Int.ofNat 0), (0, 112, Int.ofNat 0), (0, 127, Int.ofNat 0), (0, 113, Int.ofNat 0)]), (188, [], [(0, 50, Int.ofNat 0), (0, 53, Int.ofNat 0), (0, 93, Int.ofNat 0), (0, 98, Int.ofNat 0), (0, 0, Int.ofNat 3), (0, 129, Int.ofNat 0), (0, 124, Int.ofNat 0), (0, 125, Int.ofNat 0), (0, 112, Int.ofNat 0), (0, 127, Int.ofNat 0), (0, 113, Int.ofNat 0)]), (188, [], [(0, 54, Int.ofNat 0), (0, 57, Int.ofNat 0), (0, 94, Int.ofNat 0), (0, 98, Int.ofNat 0), (0, 0, Int.ofNat 4), (0, 129, Int.ofNat 0), (0, 124, Int.ofNat 0), (0, 125, Int.ofNat 0), (0, 112, Int.ofNat 0), (0, 127, Int.ofNat 0), (0, 113, Int.ofNat 0)]), (188, [], [(0, 58, Int.ofNat 0), (0, 61, Int.ofNat 0), (0, 95, Int.ofNat 0), (0, 98, Int.ofNat 0), (0, 0, Int.ofNat 5), (0, 129, Int.ofNat 0), (0, 124, Int.ofNat 0), (0, 125, Int.ofNat 0), (0, 112, Int.ofNat 0), (0, 127, Int.ofNat 0), (0, 113, Int.ofNat 0)])] (by dsimp only [cq_L_175, al_L_175])
set_option maxRecDepth 100000 in
theorem ah_L_176 : rf_ALT cq_L_176 := rf_alt_inf [(136, [], [(0, 0, Int.ofNat 9), (0, 116, Int.ofNat 0), (0, 0, Int.ofNat 4294967295), (0, 116, Int.ofNat 0), (0, 0, Int.ofNat 4294967295), (0, 122, Int.ofNat 0), (0, 117, Int.ofNat 0)]), (136, [], [(0, 0, Int.ofNat 8), (0, 114, Int.ofNat 0), (0, 0, Int.ofNat 32), (0, 114, Int.ofNat 0), (0, 0, Int.ofNat 32), (0, 121, Int.ofNat 0), (0, 115, Int.ofNat 0)]), (136, [], [(0, 0, Int.ofNat 10), (0, 121, Int.ofNat 0), (0, 122, Int.ofNat 0), (0, 115, Int.ofNat 0), (0, 117, Int.ofNat 0), (0, 123, Int.ofNat 0), (0, 118, Int.ofNat 0)]), (182, [], [(0, 44, Int.ofNat 0), (0, 120, Int.ofNat 0), (0, 126, Int.ofNat 0)]), (181, [], [(0, 126, Int.ofNat 0), (0, 123, Int.ofNat 0), (0, 125, Int.ofNat 0), (0, 44, Int.ofNat 0), (0, 118, Int.ofNat 0), (0, 119, Int.ofNat 0)]), (100, [49], [(0, 113, Int.ofNat 0), (0, 119, Int.ofNat 0), (0, 91, Int.ofNat 0)]), (100, [96], [(0, 124, Int.ofNat 0), (0, 125, Int.ofNat 0), (0, 98, Int.ofNat 0)]), (187, [], [(0, 38, Int.ofNat 0), (0, 41, Int.ofNat 0), (0, 90, Int.ofNat 0), (0, 98, Int.ofNat 0), (0, 0, Int.ofNat 0), (0, 129, Int.ofNat 0), (0, 124, Int.ofNat 0), (0, 125, Int.ofNat 0), (0, 112, Int.ofNat 0), (0, 127, Int.ofNat 0), (0, 113, Int.ofNat 0)]), (186, [], [(0, 42, Int.ofNat 0), (0, 45, Int.ofNat 0), (0, 91, Int.ofNat 0), (0, 98, Int.ofNat 0), (0, 0, Int.ofNat 1), (0, 128, Int.ofNat 0), (0, 113, Int.ofNat 0), (0, 119, Int.ofNat 0), (0, 129, Int.ofNat 0), (0, 124, Int.ofNat 0), (0, 125, Int.ofNat 0), (0, 112, Int.ofNat 0), (0, 127, Int.ofNat 0)]), (188, [], [(0, 46, Int.ofNat 0), (0, 49, Int.ofNat 0), (0, 92, Int.ofNat 0), (0, 98, Int.ofNat 0), (0, 0, Int.ofNat 2), (0, 129, Int.ofNat 0), (0, 124, Int.ofNat 0), (0, 125, Int.ofNat 0), (0, 112, Int.ofNat 0), (0, 127, Int.ofNat 0), (0, 113, Int.ofNat 0)]), (188, [], [(0, 50, Int.ofNat 0), (0, 53, Int.ofNat 0), (0, 93, Int.ofNat 0), (0, 98, Int.ofNat 0), (0, 0, Int.ofNat 3), (0, 129, Int.ofNat 0), (0, 124, Int.ofNat 0), (0, 125, Int.ofNat 0), (0, 112, Int.ofNat 0), (0, 127, Int.ofNat 0), (0, 113, Int.ofNat 0)]), (188, [], [(0, 54, Int.ofNat 0), (0, 57, Int.ofNat 0), (0, 94, Int.ofNat 0), (0, 98, Int.ofNat 0), (0, 0, Int.ofNat 4), (0, 129, Int.ofNat 0), (0, 124, Int.ofNat 0), (0, 125, Int.ofNat 0), (0, 112, Int.ofNat 0), (0, 127, Int.ofNat 0), (0, 113, Int.ofNat 0)]), (188, [], [(0, 58, Int.ofNat 0), (0, 61, Int.ofNat 0), (0, 95, Int.ofNat 0), (0, 98, Int.ofNat 0), (0, 0, Int.ofNat 5), (0, 129, Int.ofNat 0), (0, 124, Int.ofNat 0), (0, 125, Int.ofNat 0), (0, 112, Int.ofNat 0), (0, 127, Int.ofNat 0), (0, 113, Int.ofNat 0)])] (by dsimp only [cq_L_176, al_L_176])
set_option maxRecDepth 100000 in
theorem ah_L_177 : rf_ALT cq_L_177 := rf_alt_inf [(136, [], [(0, 0, Int.ofNat 9), (0, 116, Int.ofNat 0), (0, 0, Int.ofNat 4294967295), (0, 116, Int.ofNat 0), (0, 0, Int.ofNat 4294967295), (0, 122, Int.ofNat 0), (0, 117, Int.ofNat 0)]), (136, [], [(0, 0, Int.ofNat 8), (0, 114, Int.ofNat 0), (0, 0, Int.ofNat 32), (0, 114, Int.ofNat 0), (0, 0, Int.ofNat 32), (0, 121, Int.ofNat 0), (0, 115, Int.ofNat 0)]), (136, [], [(0, 0, Int.ofNat 10), (0, 121, Int.ofNat 0), (0, 122, Int.ofNat 0), (0, 115, Int.ofNat 0), (0, 117, Int.ofNat 0), (0, 123, Int.ofNat 0), (0, 118, Int.ofNat 0)]), (182, [], [(0, 48, Int.ofNat 0), (0, 120, Int.ofNat 0), (0, 126, Int.ofNat 0)]), (181, [], [(0, 126, Int.ofNat 0), (0, 123, Int.ofNat 0), (0, 125, Int.ofNat 0), (0, 48, Int.ofNat 0), (0, 118, Int.ofNat 0), (0, 119, Int.ofNat 0)]), (100, [50], [(0, 113, Int.ofNat 0), (0, 119, Int.ofNat 0), (0, 92, Int.ofNat 0)]), (100, [96], [(0, 124, Int.ofNat 0), (0, 125, Int.ofNat 0), (0, 98, Int.ofNat 0)]), (187, [], [(0, 38, Int.ofNat 0), (0, 41, Int.ofNat 0), (0, 90, Int.ofNat 0), (0, 98, Int.ofNat 0), (0, 0, Int.ofNat 0), (0, 129, Int.ofNat 0), (0, 124, Int.ofNat 0), (0, 125, Int.ofNat 0), (0, 112, Int.ofNat 0), (0, 127, Int.ofNat 0), (0, 113, Int.ofNat 0)]), (187, [], [(0, 42, Int.ofNat 0), (0, 45, Int.ofNat 0), (0, 91, Int.ofNat 0), (0, 98, Int.ofNat 0), (0, 0, Int.ofNat 1), (0, 129, Int.ofNat 0), (0, 124, Int.ofNat 0), (0, 125, Int.ofNat 0), (0, 112, Int.ofNat 0), (0, 127, Int.ofNat 0), (0, 113, Int.ofNat 0)]), (186, [], [(0, 46, Int.ofNat 0), (0, 49, Int.ofNat 0), (0, 92, Int.ofNat 0), (0, 98, Int.ofNat 0), (0, 0, Int.ofNat 2), (0, 128, Int.ofNat 0), (0, 113, Int.ofNat 0), (0, 119, Int.ofNat 0), (0, 129, Int.ofNat 0), (0, 124, Int.ofNat 0), (0, 125, Int.ofNat 0), (0, 112, Int.ofNat 0), (0, 127, Int.ofNat 0)]), (188, [], [(0, 50, Int.ofNat 0), (0, 53, Int.ofNat 0), (0, 93, Int.ofNat 0), (0, 98, Int.ofNat 0), (0, 0, Int.ofNat 3), (0, 129, Int.ofNat 0), (0, 124, Int.ofNat 0), (0, 125, Int.ofNat 0), (0, 112, Int.ofNat 0), (0, 127, Int.ofNat 0), (0, 113, Int.ofNat 0)]), (188, [], [(0, 54, Int.ofNat 0), (0, 57, Int.ofNat 0), (0, 94, Int.ofNat 0), (0, 98, Int.ofNat 0), (0, 0, Int.ofNat 4), (0, 129, Int.ofNat 0), (0, 124, Int.ofNat 0), (0, 125, Int.ofNat 0), (0, 112, Int.ofNat 0), (0, 127, Int.ofNat 0), (0, 113, Int.ofNat 0)]), (188, [], [(0, 58, Int.ofNat 0), (0, 61, Int.ofNat 0), (0, 95, Int.ofNat 0), (0, 98, Int.ofNat 0), (0, 0, Int.ofNat 5), (0, 129, Int.ofNat 0), (0, 124, Int.ofNat 0), (0, 125, Int.ofNat 0), (0, 112, Int.ofNat 0), (0, 127, Int.ofNat 0), (0, 113, Int.ofNat 0)])] (by dsimp only [cq_L_177, al_L_177])
set_option maxRecDepth 100000 in
theorem ah_L_178 : rf_ALT cq_L_178 := rf_alt_inf [(136, [], [(0, 0, Int.ofNat 9), (0, 116, Int.ofNat 0), (0, 0, Int.ofNat 4294967295), (0, 116, Int.ofNat 0), (0, 0, Int.ofNat 4294967295), (0, 122, Int.ofNat 0), (0, 117, Int.ofNat 0)]), (136, [], [(0, 0, Int.ofNat 8), (0, 114, Int.ofNat 0), (0, 0, Int.ofNat 32), (0, 114, Int.ofNat 0), (0, 0, Int.ofNat 32), (0, 121, Int.ofNat 0), (0, 115, Int.ofNat 0)]), (136, [], [(0, 0, Int.ofNat 10), (0, 121, Int.ofNat 0), (0, 122, Int.ofNat 0), (0, 115, Int.ofNat 0), (0, 117, Int.ofNat 0), (0, 123, Int.ofNat 0), (0, 118, Int.ofNat 0)]), (182, [], [(0, 52, Int.ofNat 0), (0, 120, Int.ofNat 0), (0, 126, Int.ofNat 0)]), (181, [], [(0, 126, Int.ofNat 0), (0, 123, Int.ofNat 0), (0, 125, Int.ofNat 0), (0, 52, Int.ofNat 0), (0, 118, Int.ofNat 0), (0, 119, Int.ofNat 0)]), (100, [51], [(0, 113, Int.ofNat 0), (0, 119, Int.ofNat 0), (0, 93, Int.ofNat 0)]), (100, [96], [(0, 124, Int.ofNat 0), (0, 125, Int.ofNat 0), (0, 98, Int.ofNat 0)]), (187, [], [(0, 38, Int.ofNat 0), (0, 41, Int.ofNat 0), (0, 90, Int.ofNat 0), (0, 98, Int.ofNat 0), (0, 0, Int.ofNat 0), (0, 129, Int.ofNat 0), (0, 124, Int.ofNat 0), (0, 125, Int.ofNat 0), (0, 112, Int.ofNat 0), (0, 127, Int.ofNat 0), (0, 113, Int.ofNat 0)]), (187, [], [(0, 42, Int.ofNat 0), (0, 45, Int.ofNat 0), (0, 91, Int.ofNat 0), (0, 98, Int.ofNat 0), (0, 0, Int.ofNat 1), (0, 129, Int.ofNat 0), (0, 124, Int.ofNat 0), (0, 125, Int.ofNat 0), (0, 112, Int.ofNat 0), (0, 127, Int.ofNat 0), (0, 113, Int.ofNat 0)]), (187, [], [(0, 46, Int.ofNat 0), (0, 49, Int.ofNat 0), (0, 92, Int.ofNat 0), (0, 98, Int.ofNat 0), (0, 0, Int.ofNat 2), (0, 129, Int.ofNat 0), (0, 124, Int.ofNat 0), (0, 125, Int.ofNat 0), (0, 112, Int.ofNat 0), (0, 127, Int.ofNat 0), (0, 113, Int.ofNat 0)]), (186, [], [(0, 50, Int.ofNat 0), (0, 53, Int.ofNat 0), (0, 93, Int.ofNat 0), (0, 98, Int.ofNat 0), (0, 0, Int.ofNat 3), (0, 128, Int.ofNat 0), (0, 113, Int.ofNat 0), (0, 119, Int.ofNat 0), (0, 129, Int.ofNat 0), (0, 124, Int.ofNat 0), (0, 125, Int.ofNat 0), (0, 112, Int.ofNat 0), (0, 127, Int.ofNat 0)]), (188, [], [(0, 54, Int.ofNat 0), (0, 57, Int.ofNat 0), (0, 94, Int.ofNat 0), (0, 98, Int.ofNat 0), (0, 0, Int.ofNat 4), (0, 129, Int.ofNat 0), (0, 124, Int.ofNat 0), (0, 125, Int.ofNat 0), (0, 112, Int.ofNat 0), (0, 127, Int.ofNat 0), (0, 113, Int.ofNat 0)]), (188, [], [(0, 58, Int.ofNat 0), (0, 61, Int.ofNat 0), (0, 95, Int.ofNat 0), (0, 98, Int.ofNat 0), (0, 0, Int.ofNat 5), (0, 129, Int.ofNat 0), (0, 124, Int.ofNat 0), (0, 125, Int.ofNat 0), (0, 112, Int.ofNat 0), (0, 127, Int.ofNat 0), (0, 113, Int.ofNat 0)])] (by dsimp only [cq_L_178, al_L_178])
set_option maxRecDepth 100000 in
theorem ah_L_179 : rf_ALT cq_L_179 := rf_alt_inf [(136, [], [(0, 0, Int.ofNat 9), (0, 116, Int.ofNat 0), (0, 0, Int.ofNat 4294967295), (0, 116, Int.ofNat 0), (0, 0, Int.ofNat 4294967295), (0, 122, Int.ofNat 0), (0, 117, Int.ofNat 0)]), (136, [], [(0, 0, Int.ofNat 8), (0, 114, Int.ofNat 0), (0, 0, Int.ofNat 32), (0, 114, Int.ofNat 0), (0, 0, Int.ofNat 32), (0, 121, Int.ofNat 0), (0, 115, Int.ofNat 0)]), (136, [], [(0, 0, Int.ofNat 10), (0, 121, Int.ofNat 0), (0, 122, Int.ofNat 0), (0, 115, Int.ofNat 0), (0, 117, Int.ofNat 0), (0, 123, Int.ofNat 0), (0, 118, Int.ofNat 0)]), (182, [], [(0, 56, Int.ofNat 0), (0, 120, Int.ofNat 0), (0, 126, Int.ofNat 0)]), (181, [], [(0, 126, Int.ofNat 0), (0, 123, Int.ofNat 0), (0, 125, Int.ofNat 0), (0, 56, Int.ofNat 0), (0, 118, Int.ofNat 0), (0, 119, Int.ofNat 0)]), (100, [52], [(0, 113, Int.ofNat 0), (0, 119, Int.ofNat 0), (0, 94, Int.ofNat 0)]), (100, [96], [(0, 124, Int.ofNat 0), (0, 125, Int.ofNat 0), (0, 98, Int.ofNat 0)]), (187, [], [(0, 38, Int.ofNat 0), (0, 41, Int.ofNat 0), (0, 90, Int.ofNat 0), (0, 98, Int.ofNat 0), (0, 0, Int.ofNat 0), (0, 129, Int.ofNat 0), (0, 124, Int.ofNat 0), (0, 125, Int.ofNat 0), (0, 112, Int.ofNat 0), (0, 127, Int.ofNat 0), (0, 113, Int.ofNat 0)]), (187, [], [(0, 42, Int.ofNat 0), (0, 45, Int.ofNat 0), (0, 91, Int.ofNat 0), (0, 98, Int.ofNat 0), (0, 0, Int.ofNat 1), (0, 129, Int.ofNat 0), (0, 124, Int.ofNat 0), (0, 125, Int.ofNat 0), (0, 112, Int.ofNat 0), (0, 127, Int.ofNat 0), (0, 113, Int.ofNat 0)]), (187, [], [(0, 46, Int.ofNat 0), (0, 49, Int.ofNat 0), (0, 92, Int.ofNat 0), (0, 98, Int.ofNat 0), (0, 0, Int.ofNat 2), (0, 129, Int.ofNat 0), (0, 124, Int.ofNat 0), (0, 125, Int.ofNat 0), (0, 112, Int.ofNat 0), (0, 127, Int.ofNat 0), (0, 113, Int.ofNat 0)]), (187, [], [(0, 50, Int.ofNat 0), (0, 53, Int.ofNat 0), (0, 93, Int.ofNat 0), (0, 98, Int.ofNat 0), (0, 0, Int.ofNat 3), (0, 129, Int.ofNat 0), (0, 124, Int.ofNat 0), (0, 125, Int.ofNat 0), (0, 112, Int.ofNat 0), (0, 127, Int.ofNat 0), (0, 113, Int.ofNat 0)]), (186, [], [(0, 54, Int.ofNat 0), (0, 57, Int.ofNat 0), (0, 94, Int.ofNat 0), (0, 98, Int.ofNat 0), (0, 0, Int.ofNat 4), (0, 128, Int.ofNat 0), (0, 113, Int.ofNat 0), (0, 119, Int.ofNat 0), (0, 129, Int.ofNat 0), (0, 124, Int.ofNat 0), (0, 125, Int.ofNat 0), (0, 112, Int.ofNat 0), (0, 127, Int.ofNat 0)]), (188, [], [(0, 58, Int.ofNat 0), (0, 61, Int.ofNat 0), (0, 95, Int.ofNat 0), (0, 98, Int.ofNat 0), (0, 0, Int.ofNat 5), (0, 129, Int.ofNat 0), (0, 124, Int.ofNat 0), (0, 125, Int.ofNat 0), (0, 112, Int.ofNat 0), (0, 127, Int.ofNat 0), (0, 113, Int.ofNat 0)])] (by dsimp only [cq_L_179, al_L_179])
set_option maxRecDepth 100000 in
theorem ah_L_180 : rf_ALT cq_L_180 := rf_alt_inf [(136, [], [(0, 0, Int.ofNat 9), (0, 116, Int.ofNat 0), (0, 0, Int.ofNat 4294967295), (0, 116, Int.ofNat 0), (0, 0, Int.ofNat 4294967295), (0, 122, Int.ofNat 0), (0, 117, Int.ofNat 0)]), (136, [], [(0, 0, Int.ofNat 8), (0, 114, Int.ofNat 0), (0, 0, Int.ofNat 32), (0, 114, Int.ofNat 0), (0, 0, Int.ofNat 32), (0, 121, Int.ofNat 0), (0, 115, Int.ofNat 0)]), (136, [], [(0, 0, Int.ofNat 10), (0, 121, Int.ofNat 0), (0, 122, Int.ofNat 0), (0, 115, Int.ofNat 0), (0, 117, Int.ofNat 0), (0, 123, Int.ofNat 0), (0, 118, Int.ofNat 0)]), (182, [], [(0, 60, Int.ofNat 0), (0, 120, Int.ofNat 0), (0, 126, Int.ofNat 0)]), (181, [], [(0, 126, Int.ofNat 0), (0, 123, Int.ofNat 0), (0, 125, Int.ofNat 0), (0, 60, Int.ofNat 0), (0, 118, Int.ofNat 0), (0, 119, Int.ofNat 0)]), (100, [53], [(0, 113, Int.ofNat 0), (0, 119, Int.ofNat 0), (0, 95, Int.ofNat 0)]), (100, [96], [(0, 124, Int.ofNat 0), (0, 125, Int.ofNat 0), (0, 98, Int.ofNat 0)]), (187, [], [(0, 38, Int.ofNat 0), (0, 41, Int.ofNat 0), (0, 90, Int.ofNat 0), (0, 98, Int.ofNat 0), (0, 0, Int.ofNat 0), (0, 129, Int.ofNat 0), (0, 124, Int.ofNat 0), (0, 125, Int.ofNat 0), (0, 112, Int.ofNat 0), (0, 127, Int.ofNat 0), (0, 113, Int.ofNat 0)]), (187, [], [(0, 42, Int.ofNat 0), (0, 45, Int.ofNat 0), (0, 91, Int.ofNat 0), (0, 98, Int.ofNat 0), (0, 0, Int.ofNat 1), (0, 129, Int.ofNat 0), (0, 124, Int.ofNat 0), (0, 125, Int.ofNat 0), (0, 112, Int.ofNat 0), (0, 127, Int.ofNat 0), (0, 113, Int.ofNat 0)]), (187, [], [(0, 46, Int.ofNat 0), (0, 49, Int.ofNat 0), (0, 92, Int.ofNat 0), (0, 98, Int.ofNat 0), (0, 0, Int.ofNat 2), (0, 129, Int.ofNat 0), (0, 124, Int.ofNat 0), (0, 125, Int.ofNat 0), (0, 112, Int.ofNat 0), (0, 127, Int.ofNat 0), (0, 113, Int.ofNat 0)]), (187, [], [(0, 50, Int.ofNat 0), (0, 53, Int.ofNat 0), (0, 93, Int.ofNat 0), (0, 98, Int.ofNat 0), (0, 0, Int.ofNat 3), (0, 129, Int.ofNat 0), (0, 124, Int.ofNat 0), (0, 125, Int.ofNat 0), (0, 112, Int.ofNat 0), (0, 127, Int.ofNat 0), (0, 113, Int.ofNat 0)]), (187, [], [(0, 54, Int.ofNat 0), (0, 57, Int.ofNat 0), (0, 94, Int.ofNat 0), (0, 98, Int.ofNat 0), (0, 0, Int.ofNat 4), (0, 129, Int.ofNat 0), (0, 124, Int.ofNat 0), (0, 125, Int.ofNat 0), (0, 112, Int.ofNat 0), (0, 127, Int.ofNat 0), (0, 113, Int.ofNat 0)]), (186, [], [(0, 58, Int.ofNat 0), (0, 61, Int.ofNat 0), (0, 95, Int.ofNat 0), (0, 98, Int.ofNat 0), (0, 0, Int.ofNat 5), (0, 128, Int.ofNat 0), (0, 113, Int.ofNat 0), (0, 119, Int.ofNat 0), (0, 129, Int.ofNat 0), (0, 124, Int.ofNat 0), (0, 125, Int.ofNat 0), (0, 112, Int.ofNat 0), (0, 127, Int.ofNat 0)])] (by dsimp only [cq_L_180, al_L_180])
set_option maxRecDepth 100000 in
theorem ah_L_181 : rf_ALT cq_L_181 := rf_alt_self rfl
set_option maxRecDepth 100000 in
theorem ah_L_182 : rf_ALT cq_L_182 := rf_alt_inf [] (by dsimp only [cq_L_182, al_L_182])
set_option maxRecDepth 100000 in
theorem ah_L_183 : rf_ALT cq_L_183 := rf_alt_inf [] (by dsimp only [cq_L_183, al_L_183])
set_option maxRecDepth 100000 in
theorem ah_L_184 : rf_ALT cq_L_184 := rf_alt_inf [] (by dsimp only [cq_L_184, al_L_184])
set_option maxRecDepth 100000 in
theorem ah_L_185 : rf_ALT cq_L_185 := rf_alt_inf [] (by dsimp only [cq_L_185, al_L_185])
set_option maxRecDepth 100000 in
theorem ah_L_186 : rf_ALT cq_L_186 := rf_alt_inf [] (by dsimp only [cq_L_186, al_L_186])
set_option maxRecDepth 100000 in
theorem ah_L_187 : rf_ALT cq_L_187 := rf_alt_inf [] (by dsimp only [cq_L_187, al_L_187])
set_option maxRecDepth 100000 in
theorem ah_L_188 : rf_ALT cq_L_188 := rf_alt_inf [] (by dsimp only [cq_L_188, al_L_188])
set_option maxRecDepth 100000 in
theorem ah_L_189 : rf_ALT cq_L_189 := rf_alt_inf [(183, [], [(0, 117, Int.ofNat 0), (0, 98, Int.ofNat 0), (0, 112, Int.ofNat 0), (0, 113, Int.ofNat 0), (0, 114, Int.ofNat 0), (0, 112, Int.ofNat 0), (0, 113, Int.ofNat 0)])] (by dsimp only [cq_L_189, al_L_189])
set_option maxRecDepth 100000 in
theorem ah_L_190 : rf_ALT cq_L_190 := rf_alt_self rfl
set_option maxRecDepth 100000 in
theorem ah_L_191 : rf_ALT cq_L_191 := rf_alt_self rfl
set_option maxRecDepth 100000 in
theorem ah_L_192 : rf_ALT cq_L_192 := rf_alt_self rfl
set_option maxRecDepth 100000 in
theorem ah_L_193 : rf_ALT cq_L_193 := rf_alt_self rfl
set_option maxRecDepth 100000 in
theorem ah_L_194 : rf_ALT cq_L_194 := rf_alt_self rfl
set_option maxRecDepth 100000 in
theorem ah_L_195 : rf_ALT cq_L_195 := rf_alt_self rfl
set_option maxRecDepth 100000 in
theorem ah_L_196 : rf_ALT cq_L_196 := rf_alt_self rfl
set_option maxRecDepth 100000 in
theorem ah_L_197 : rf_ALT cq_L_197 := rf_alt_self rfl
set_option maxRecDepth 100000 in
theorem ah_L_198 : rf_ALT cq_L_198 := rf_alt_self rfl
set_option maxRecDepth 100000 in
theorem ah_L_199 : rf_ALT cq_L_199 := rf_alt_self rfl
set_option maxRecDepth 100000 in
theorem ah_L_200 : rf_ALT cq_L_200 := rf_alt_self rfl
set_option maxRecDepth 100000 in
theorem ah_L_201 : rf_ALT cq_L_201 := rf_alt_self rfl
set_option maxRecDepth 100000 in
theorem ah_L_202 : rf_ALT cq_L_202 := rf_alt_self rfl
set_option maxRecDepth 100000 in
theorem ah_L_203 : rf_ALT cq_L_203 := rf_alt_self rfl
set_option maxRecDepth 100000 in
theorem ah_L_204 : rf_ALT cq_L_204 := rf_alt_self rfl
set_option maxRecDepth 100000 in
theorem ah_L_205 : rf_ALT cq_L_205 := rf_alt_self rfl
set_option maxRecDepth 100000 in
theorem ah_L_206 : rf_ALT cq_L_206 := rf_alt_self rfl
set_option maxRecDepth 100000 in
theorem ah_L_207 : rf_ALT cq_L_207 := rf_alt_self rfl
set_option maxRecDepth 100000 in
theorem ah_L_208 : rf_ALT cq_L_208 := rf_alt_self rfl
set_option maxRecDepth 100000 in
theorem ah_L_209 : rf_ALT cq_L_209 := rf_alt_self rfl
set_option maxRecDepth 100000 in
theorem ah_L_210 : rf_ALT cq_L_210 := rf_alt_self rfl
set_option maxRecDepth 100000 in
theorem ah_L_211 : rf_ALT cq_L_211 := rf_alt_self rfl
set_option maxRecDepth 100000 in
theorem ah_L_212 : rf_ALT cq_L_212 := rf_alt_self rfl
set_option maxRecDepth 100000 in
theorem ah_L_213 : rf_ALT cq_L_213 := rf_alt_self rfl
set_option maxRecDepth 100000 in
theorem ah_L_214 : rf_ALT cq_L_214 := rf_alt_self rfl
set_option maxRecDepth 100000 in
theorem ah_L_215 : rf_ALT cq_L_215 := rf_alt_self rfl
set_option maxRecDepth 100000 in
theorem ah_L_216 : rf_ALT cq_L_216 := rf_alt_inf [(135, [], [(0, 114, Int.ofNat 0), (0, 114, Int.ofNat 0), (0, 121, Int.ofNat 0), (0, 117, Int.ofNat 0), (0, 96, Int.ofNat 0)]), (135, [], [(0, 112, Int.ofNat 0), (0, 112, Int.ofNat 0), (0, 122, Int.ofNat 0), (0, 119, Int.ofNat 0), (0, 96, Int.ofNat 0)]), (147, [], [(0, 1, Int.ofNat 0), (0, 0, Int.ofNat 6), (0, 1, Int.negSucc 5), (0, 115, Int.ofNat 0)]), (147, [], [(0, 1, Int.ofNat 0), (0, 0, Int.ofNat 6), (0, 1, Int.negSucc 5), (0, 116, Int.ofNat 0)])] (by dsimp only [cq_L_216, al_L_216])
set_option maxRecDepth 100000 in
theorem ah_L_217 : rf_ALT cq_L_217 := rf_alt_inf [(135, [], [(0, 114, Int.ofNat 0), (0, 114, Int.ofNat 0), (0, 121, Int.ofNat 0), (0, 117, Int.ofNat 0), (0, 96, Int.ofNat 0)]), (135, [], [(0, 112, Int.ofNat 0), (0, 112, Int.ofNat 0), (0, 122, Int.ofNat 0), (0, 119, Int.ofNat 0), (0, 96, Int.ofNat 0)]), (147, [], [(0, 1, Int.ofNat 0), (0, 0, Int.ofNat 6), (0, 1, Int.negSucc 5), (0, 113, Int.ofNat 0)]), (147, [], [(0, 1, Int.ofNat 0), (0, 0, Int.ofNat 6), (0, 1, Int.negSucc 5), (0, 116, Int.ofNat 0)])] (by dsimp only [cq_L_217, al_L_217])
set_option maxRecDepth 100000 in
theorem ah_L_218 : rf_ALT cq_L_218 := rf_alt_inf [(135, [], [(0, 114, Int.ofNat 0), (0, 114, Int.ofNat 0), (0, 117, Int.ofNat 0), (0, 0, Int.negSucc 0), (0, 96, Int.ofNat 0)])] (by dsimp only [cq_L_218, al_L_218])
set_option maxRecDepth 100000 in
theorem ah_L_219 : rf_ALT cq_L_219 := rf_alt_inf [(135, [], [(0, 114, Int.ofNat 0), (0, 114, Int.ofNat 0), (0, 121, Int.ofNat 0), (0, 117, Int.ofNat 0), (0, 96, Int.ofNat 0)]), (135, [], [(0, 112, Int.ofNat 0), (0, 112, Int.ofNat 0), (0, 122, Int.ofNat 0), (0, 119, Int.ofNat 0), (0, 96, Int.ofNat 0)]), (147, [], [(0, 1, Int.ofNat 0), (0, 0, Int.ofNat 6), (0, 1, Int.negSucc 5), (0, 116, Int.ofNat 0)]), (151, [], [(0, 121, Int.ofNat 0), (0, 119, Int.ofNat 0), (0, 121, Int.ofNat 0), (0, 121, Int.ofNat 0)])] (by dsimp only [cq_L_219, al_L_219])
set_option maxRecDepth 100000 in
theorem ah_L_220 : rf_ALT cq_L_220 := rf_alt_inf [(135, [], [(0, 114, Int.ofNat 0), (0, 114, Int.ofNat 0), (0, 118, Int.ofNat 0), (0, 0, Int.negSucc 0), (0, 96, Int.ofNat 0)])] (by dsimp only [cq_L_220, al_L_220])
set_option maxRecDepth 100000 in
theorem ah_L_221 : rf_ALT cq_L_221 := rf_alt_inf [(135, [], [(0, 114, Int.ofNat 0), (0, 114, Int.ofNat 0), (0, 118, Int.ofNat 0), (0, 117, Int.ofNat 0), (0, 96, Int.ofNat 0)])] (by dsimp only [cq_L_221, al_L_221])
set_option maxRecDepth 100000 in
theorem ah_L_222 : rf_ALT cq_L_222 := rf_alt_inf [(135, [], [(0, 114, Int.ofNat 0), (0, 114, Int.ofNat 0), (0, 121, Int.ofNat 0), (0, 117, Int.ofNat 0), (0, 96, Int.ofNat 0)]), (135, [], [(0, 112, Int.ofNat 0), (0, 112, Int.ofNat 0), (0, 122, Int.ofNat 0), (0, 119, Int.ofNat 0), (0, 96, Int.ofNat 0)]), (147, [], [(0, 1, Int.ofNat 0), (0, 0, Int.ofNat 6), (0, 1, Int.negSucc 5), (0, 116, Int.ofNat 0)]), (151, [], [(0, 122, Int.ofNat 0), (0, 117, Int.ofNat 0), (0, 121, Int.ofNat 0), (0, 121, Int.ofNat 0)])] (by dsimp only [cq_L_222, al_L_222])
set_option maxRecDepth 100000 in
theorem ah_L_223 : rf_ALT cq_L_223 := rf_alt_inf [(135, [], [(0, 114, Int.ofNat 0), (0, 114, Int.ofNat 0), (0, 119, Int.ofNat 0), (0, 0, Int.negSucc 0), (0, 96, Int.ofNat 0)])] (by dsimp only [cq_L_223, al_L_223])
set_option maxRecDepth 100000 in
theorem ah_L_224 : rf_ALT cq_L_224 := rf_alt_inf [(135, [], [(0, 114, Int.ofNat 0), (0, 114, Int.ofNat 0), (0, 119, Int.ofNat 0), (0, 117, Int.ofNat 0), (0, 96, Int.ofNat 0)]), (135, [], [(0, 112, Int.ofNat 0), (0, 112, Int.ofNat 0), (0, 120, Int.ofNat 0), (0, 0, Int.negSucc 0), (0, 96, Int.ofNat 0)])] (by dsimp only [cq_L_224, al_L_224])
set_option maxRecDepth 100000 in
theorem ah_L_225 : rf_ALT cq_L_225 := rf_alt_inf [(135, [], [(0, 114, Int.ofNat 0), (0, 114, Int.ofNat 0), (0, 119, Int.ofNat 0), (0, 117, Int.ofNat 0), (0, 96, Int.ofNat 0)])] (by dsimp only [cq_L_225, al_L_225])
set_option maxRecDepth 100000 in
theorem ah_L_226 : rf_ALT cq_L_226 := rf_alt_inf [(135, [], [(0, 114, Int.ofNat 0), (0, 114, Int.ofNat 0), (0, 120, Int.ofNat 0), (0, 117, Int.ofNat 0), (0, 96, Int.ofNat 0)]), (135, [], [(0, 112, Int.ofNat 0), (0, 112, Int.ofNat 0), (0, 121, Int.ofNat 0), (0, 119, Int.ofNat 0), (0, 96, Int.ofNat 0)])] (by dsimp only [cq_L_226, al_L_226])
set_option maxRecDepth 100000 in
theorem ah_L_227 : rf_ALT cq_L_227 := rf_alt_inf [(135, [], [(0, 114, Int.ofNat 0), (0, 114, Int.ofNat 0), (0, 120, Int.ofNat 0), (0, 117, Int.ofNat 0), (0, 96, Int.ofNat 0)])] (by dsimp only [cq_L_227, al_L_227])
set_option maxRecDepth 100000 in
theorem ah_L_228 : rf_ALT cq_L_228 := rf_alt_inf [(135, [], [(0, 112, Int.ofNat 0), (0, 112, Int.ofNat 0), (0, 121, Int.ofNat 0), (0, 119, Int.ofNat 0), (0, 96, Int.ofNat 0)])] (by dsimp only [cq_L_228, al_L_228])
set_option maxRecDepth 100000 in
theorem ah_L_229 : rf_ALT cq_L_229 := rf_alt_inf [(135, [], [(0, 114, Int.ofNat 0), (0, 114, Int.ofNat 0), (0, 121, Int.ofNat 0), (0, 117, Int.ofNat 0), (0, 96, Int.ofNat 0)])] (by dsimp only [cq_L_229, al_L_229])
set_option maxRecDepth 100000 in
theorem ah_L_230 : rf_ALT cq_L_230 := rf_alt_inf [(135, [], [(0, 114, Int.ofNat 0), (0, 114, Int.ofNat 0), (0, 121, Int.ofNat 0), (0, 117, Int.ofNat 0), (0, 96, Int.ofNat 0)])] (by dsimp only [cq_L_230, al_L_230])
set_option maxRecDepth 100000 in
theorem ah_L_231 : rf_ALT cq_L_231 := rf_alt_inf [(135, [], [(0, 114, Int.ofNat 0), (0, 114, Int.ofNat 0), (0, 121, Int.ofNat 0), (0, 117, Int.ofNat 0), (0, 96, Int.ofNat 0)]), (135, [], [(0, 112, Int.ofNat 0), (0, 112, Int.ofNat 0), (0, 122, Int.ofNat 0), (0, 119, Int.ofNat 0), (0, 96, Int.ofNat 0)])] (by dsimp only [cq_L_231, al_L_231])
set_option maxRecDepth 100000 in
theorem ah_L_232 : rf_ALT cq_L_232 := rf_alt_inf [(135, [], [(0, 114, Int.ofNat 0), (0, 114, Int.ofNat 0), (0, 121, Int.ofNat 0), (0, 117, Int.ofNat 0), (0, 96, Int.ofNat 0)])] (by dsimp only [cq_L_232, al_L_232])
set_option maxRecDepth 100000 in
theorem ah_L_233 : rf_ALT cq_L_233 := rf_alt_inf [(135, [], [(0, 114, Int.ofNat 0), (0, 114, Int.ofNat 0), (0, 121, Int.ofNat 0), (0, 117, Int.ofNat 0), (0, 96, Int.ofNat 0)])] (by dsimp only [cq_L_233, al_L_233])
set_option maxRecDepth 100000 in
theorem ah_L_234 : rf_ALT cq_L_234 := rf_alt_inf [(135, [], [(0, 114, Int.ofNat 0), (0, 114, Int.ofNat 0), (0, 121, Int.ofNat 0), (0, 117, Int.ofNat 0), (0, 96, Int.ofNat 0)]), (135, [], [(0, 112, Int.ofNat 0), (0, 112, Int.ofNat 0), (0, 122, Int.ofNat 0), (0, 119, Int.ofNat 0), (0, 96, Int.ofNat 0)]), (147, [], [(0, 1, Int.ofNat 0), (0, 0, Int.ofNat 6), (0, 1, Int.negSucc 5), (0, 116, Int.ofNat 0)]), (151, [], [(0, 121, Int.ofNat 0), (0, 122, Int.ofNat 0), (0, 122, Int.ofNat 0), (0, 117, Int.ofNat 0)])] (by dsimp only [cq_L_234, al_L_234])
set_option maxRecDepth 100000 in
theorem ah_L_235 : rf_ALT cq_L_235 := rf_alt_inf [(135, [], [(0, 114, Int.ofNat 0), (0, 114, Int.ofNat 0), (0, 121, Int.ofNat 0), (0, 117, Int.ofNat 0), (0, 96, Int.ofNat 0)]), (135, [], [(0, 112, Int.ofNat 0), (0, 112, Int.ofNat 0), (0, 122, Int.ofNat 0), (0, 119, Int.ofNat 0), (0, 96, Int.ofNat 0)]), (147, [], [(0, 1, Int.ofNat 0), (0, 0, Int.ofNat 6), (0, 1, Int.negSucc 5), (0, 116, Int.ofNat 0)])] (by dsimp only [cq_L_235, al_L_235])
set_option maxRecDepth 100000 in
theorem ah_L_236 : rf_ALT cq_L_236 := rf_alt_inf [(135, [], [(0, 114, Int.ofNat 0), (0, 114, Int.ofNat 0), (0, 121, Int.ofNat 0), (0, 117, Int.ofNat 0), (0, 96, Int.ofNat 0)]), (135, [], [(0, 112, Int.ofNat 0), (0, 112, Int.ofNat 0), (0, 122, Int.ofNat 0), (0, 119, Int.ofNat 0), (0, 96, Int.ofNat 0)]), (147, [], [(0, 1, Int.ofNat 0), (0, 0, Int.ofNat 6), (0, 1, Int.negSucc 5), (0, 116, Int.ofNat 0)]), (151, [], [(0, 122, Int.ofNat 0), (0, 121, Int.ofNat 0), (0, 121, Int.ofNat 0), (0, 117, Int.ofNat 0)])] (by dsimp only [cq_L_236, al_L_236])
set_option maxRecDepth 100000 in
theorem ah_L_237 : rf_ALT cq_L_237 := rf_alt_inf [(135, [], [(0, 112, Int.ofNat 0), (0, 112, Int.ofNat 0), (0, 121, Int.ofNat 0), (0, 119, Int.ofNat 0), (0, 96, Int.ofNat 0)])] (by dsimp only [cq_L_237, al_L_237])
set_option maxRecDepth 100000 in
theorem ah_L_238 : rf_ALT cq_L_238 := rf_alt_inf [(135, [], [(0, 114, Int.ofNat 0), (0, 114, Int.ofNat 0), (0, 121, Int.ofNat 0), (0, 117, Int.ofNat 0), (0, 96, Int.ofNat 0)])] (by dsimp only [cq_L_238, al_L_238])
set_option maxRecDepth 100000 in
theorem ah_L_239 : rf_ALT cq_L_239 := rf_alt_inf [(135, [], [(0, 114, Int.ofNat 0), (0, 114, Int.ofNat 0), (0, 121, Int.ofNat 0), (0, 117, Int.ofNat 0), (0, 96, Int.ofNat 0)])] (by dsimp only [cq_L_239, al_L_239])
set_option maxRecDepth 100000 in
theorem ah_L_240 : rf_ALT cq_L_240 := rf_alt_inf [(135, [], [(0, 114, Int.ofNat 0), (0, 114, Int.ofNat 0), (0, 121, Int.ofNat 0), (0, 117, Int.ofNat 0), (0, 96, Int.ofNat 0)]), (135, [], [(0, 112, Int.ofNat 0), (0, 112, Int.ofNat 0), (0, 122, Int.ofNat 0), (0, 119, Int.ofNat 0), (0, 96, Int.ofNat 0)])] (by dsimp only [cq_L_240, al_L_240])
set_option maxRecDepth 100000 in
theorem ah_L_241 : rf_ALT cq_L_241 := rf_alt_inf [(135, [], [(0, 114, Int.ofNat 0), (0, 114, Int.ofNat 0), (0, 121, Int.ofNat 0), (0, 117, Int.ofNat 0), (0, 96, Int.ofNat 0)])] (by dsimp only [cq_L_241, al_L_241])
set_option maxRecDepth 100000 in
theorem ah_L_242 : rf_ALT cq_L_242 := rf_alt_inf [(135, [], [(0, 114, Int.ofNat 0), (0, 114, Int.ofNat 0), (0, 121, Int.ofNat 0), (0, 117, Int.ofNat 0), (0, 96, Int.ofNat 0)])] (by dsimp only [cq_L_242, al_L_242])
set_option maxRecDepth 100000 in
theorem ah_L_243 : rf_ALT cq_L_243 := rf_alt_inf [(135, [], [(0, 114, Int.ofNat 0), (0, 114, Int.ofNat 0), (0, 121, Int.ofNat 0), (0, 117, Int.ofNat 0), (0, 96, Int.ofNat 0)]), (135, [], [(0, 112, Int.ofNat 0), (0, 112, Int.ofNat 0), (0, 122, Int.ofNat 0), (0, 119, Int.ofNat 0), (0, 96, Int.ofNat 0)]), (147, [], [(0, 1, Int.ofNat 0), (0, 0, Int.ofNat 6), (0, 1, Int.negSucc 5), (0, 115, Int.ofNat 0)]), (151, [], [(0, 121, Int.ofNat 0), (0, 122, Int.ofNat 0), (0, 122, Int.ofNat 0), (0, 117, Int.ofNat 0)])] (by dsimp only [cq_L_243, al_L_243])
set_option maxRecDepth 100000 in
theorem ah_L_244 : rf_ALT cq_L_244 := rf_alt_inf [(135, [], [(0, 114, Int.ofNat 0), (0, 114, Int.ofNat 0), (0, 121, Int.ofNat 0), (0, 117, Int.ofNat 0), (0, 96, Int.ofNat 0)]), (135, [], [(0, 112, Int.ofNat 0), (0, 112, Int.ofNat 0), (0, 122, Int.ofNat 0), (0, 119, Int.ofNat 0), (0, 96, Int.ofNat 0)]), (147, [], [(0, 1, Int.ofNat 0), (0, 0, Int.ofNat 6), (0, 1, Int.negSucc 5), (0, 115, Int.ofNat 0)]), (151, [], [(0, 122, Int.ofNat 0), (0, 121, Int.ofNat 0), (0, 121, Int.ofNat 0), (0, 117, Int.ofNat 0)])] (by dsimp only [cq_L_244, al_L_244])
set_option maxRecDepth 100000 in
theorem ah_L_245 : rf_ALT cq_L_245 := rf_alt_inf [(147, [], [(0, 1, Int.ofNat 0), (0, 0, Int.ofNat 6), (0, 1, Int.negSucc 5), (0, 114, Int.ofNat 0)])] (by dsimp only [cq_L_245, al_L_245])
set_option maxRecDepth 100000 in
theorem ah_L_246 : rf_ALT cq_L_246 := rf_alt_inf [(147, [], [(0, 1, Int.ofNat 0), (0, 0, Int.ofNat 6), (0, 1, Int.negSucc 5), (0, 112, Int.ofNat 0)])] (by dsimp only [cq_L_246, al_L_246])
set_option maxRecDepth 100000 in
theorem ah_L_247 : rf_ALT cq_L_247 := rf_alt_inf [] (by dsimp only [cq_L_247, al_L_247])
set_option maxRecDepth 100000 in
theorem ah_L_248 : rf_ALT cq_L_248 := rf_alt_inf [(135, [], [(0, 112, Int.ofNat 0), (0, 112, Int.ofNat 0), (0, 121, Int.ofNat 0), (0, 119, Int.ofNat 0), (0, 96, Int.ofNat 0)])] (by dsimp only [cq_L_248, al_L_248])
set_option maxRecDepth 100000 in
theorem ah_L_249 : rf_ALT cq_L_249 := rf_alt_inf [(135, [], [(0, 114, Int.ofNat 0), (0, 114, Int.ofNat 0), (0, 121, Int.ofNat 0), (0, 117, Int.ofNat 0), (0, 96, Int.ofNat 0)])] (by dsimp only [cq_L_249, al_L_249])
set_option maxRecDepth 100000 in
theorem ah_L_250 : rf_ALT cq_L_250 := rf_alt_inf [(135, [], [(0, 114, Int.ofNat 0), (0, 114, Int.ofNat 0), (0, 121, Int.ofNat 0), (0, 117, Int.ofNat 0), (0, 96, Int.ofNat 0)])] (by dsimp only [cq_L_250, al_L_250])
set_option maxRecDepth 100000 in
theorem ah_L_251 : rf_ALT cq_L_251 := rf_alt_inf [(135, [], [(0, 114, Int.ofNat 0), (0, 114, Int.ofNat 0), (0, 121, Int.ofNat 0), (0, 117, Int.ofNat 0), (0, 96, Int.ofNat 0)]), (135, [], [(0, 112, Int.ofNat 0), (0, 112, Int.ofNat 0), (0, 122, Int.ofNat 0), (0, 119, Int.ofNat 0), (0, 96, Int.ofNat 0)])] (by dsimp only [cq_L_251, al_L_251])
set_option maxRecDepth 100000 in
theorem ah_L_252 : rf_ALT cq_L_252 := rf_alt_inf [(135, [], [(0, 114, Int.ofNat 0), (0, 114, Int.ofNat 0), (0, 121, Int.ofNat 0), (0, 117, Int.ofNat 0), (0, 96, Int.ofNat 0)])] (by dsimp only [cq_L_252, al_L_252])
set_option maxRecDepth 100000 in
theorem ah_L_253 : rf_ALT cq_L_253 := rf_alt_inf [(135, [], [(0, 114, Int.ofNat 0), (0, 114, Int.ofNat 0), (0, 121, Int.ofNat 0), (0, 117, Int.ofNat 0), (0, 96, Int.ofNat 0)])] (by dsimp only [cq_L_253, al_L_253])
set_option maxRecDepth 100000 in
theorem ah_L_254 : rf_ALT cq_L_254 := rf_alt_inf [(135, [], [(0, 114, Int.ofNat 0), (0, 114, Int.ofNat 0), (0, 121, Int.ofNat 0), (0, 117, Int.ofNat 0), (0, 96, Int.ofNat 0)]), (135, [], [(0, 112, Int.ofNat 0), (0, 112, Int.ofNat 0), (0, 122, Int.ofNat 0), (0, 119, Int.ofNat 0), (0, 96, Int.ofNat 0)]), (147, [], [(0, 1, Int.ofNat 0), (0, 0, Int.ofNat 6), (0, 1, Int.negSucc 5), (0, 113, Int.ofNat 0)]), (151, [], [(0, 121, Int.ofNat 0), (0, 122, Int.ofNat 0), (0, 122, Int.ofNat 0), (0, 117, Int.ofNat 0)])] (by dsimp only [cq_L_254, al_L_254])
set_option maxRecDepth 100000 in
theorem ah_L_255 : rf_ALT cq_L_255 := rf_alt_inf [(135, [], [(0, 114, Int.ofNat 0), (0, 114, Int.ofNat 0), (0, 121, Int.ofNat 0), (0, 117, Int.ofNat 0), (0, 96, Int.ofNat 0)]), (135, [], [(0, 112, Int.ofNat 0), (0, 112, Int.ofNat 0), (0, 122, Int.ofNat 0), (0, 119, Int.ofNat 0), (0, 96, Int.ofNat 0)]), (147, [], [(0, 1, Int.ofNat 0), (0, 0, Int.ofNat 6), (0, 1, Int.negSucc 5), (0, 113, Int.ofNat 0)]), (151, [], [(0, 122, Int.ofNat 0), (0, 121, Int.ofNat 0), (0, 121, Int.ofNat 0), (0, 117, Int.ofNat 0)])] (by dsimp only [cq_L_255, al_L_255])
set_option maxRecDepth 100000 in
theorem ah_L_256 : rf_ALT cq_L_256 := rf_alt_inf [(135, [], [(0, 112, Int.ofNat 0), (0, 112, Int.ofNat 0), (0, 117, Int.ofNat 0), (0, 0, Int.negSucc 0), (0, 96, Int.ofNat 0)])] (by dsimp only [cq_L_256, al_L_256])
set_option maxRecDepth 100000 in
theorem ah_L_257 : rf_ALT cq_L_257 := rf_alt_inf [(135, [], [(0, 112, Int.ofNat 0), (0, 112, Int.ofNat 0), (0, 118, Int.ofNat 0), (0, 117, Int.ofNat 0), (0, 96, Int.ofNat 0)])] (by dsimp only [cq_L_257, al_L_257])
set_option maxRecDepth 100000 in
theorem ah_L_258 : rf_ALT cq_L_258 := rf_alt_inf [(135, [], [(0, 112, Int.ofNat 0), (0, 112, Int.ofNat 0), (0, 118, Int.ofNat 0), (0, 0, Int.negSucc 0), (0, 96, Int.ofNat 0)])] (by dsimp only [cq_L_258, al_L_258])
set_option maxRecDepth 100000 in
theorem ah_L_259 : rf_ALT cq_L_259 := rf_alt_inf [(135, [], [(0, 112, Int.ofNat 0), (0, 112, Int.ofNat 0), (0, 119, Int.ofNat 0), (0, 117, Int.ofNat 0), (0, 96, Int.ofNat 0)])] (by dsimp only [cq_L_259, al_L_259])
set_option maxRecDepth 100000 in
theorem ah_L_260 : rf_ALT cq_L_260 := rf_alt_inf [(135, [], [(0, 112, Int.ofNat 0), (0, 112, Int.ofNat 0), (0, 119, Int.ofNat 0), (0, 0, Int.negSucc 0), (0, 96, Int.ofNat 0)])] (by dsimp only [cq_L_260, al_L_260])
set_option maxRecDepth 100000 in
theorem ah_L_261 : rf_ALT cq_L_261 := rf_alt_inf [(135, [], [(0, 112, Int.ofNat 0), (0, 112, Int.ofNat 0), (0, 119, Int.ofNat 0), (0, 118, Int.ofNat 0), (0, 96, Int.ofNat 0)])] (by dsimp only [cq_L_261, al_L_261])
set_option maxRecDepth 100000 in
theorem ah_L_262 : rf_ALT cq_L_262 := rf_alt_inf [(135, [], [(0, 112, Int.ofNat 0), (0, 112, Int.ofNat 0), (0, 120, Int.ofNat 0), (0, 119, Int.ofNat 0), (0, 96, Int.ofNat 0)])] (by dsimp only [cq_L_262, al_L_262])
set_option maxRecDepth 100000 in
theorem ah_L_263 : rf_ALT cq_L_263 := rf_alt_inf [(135, [], [(0, 112, Int.ofNat 0), (0, 112, Int.ofNat 0), (0, 120, Int.ofNat 0), (0, 118, Int.ofNat 0), (0, 96, Int.ofNat 0)])] (by dsimp only [cq_L_263, al_L_263])
set_option maxRecDepth 100000 in
theorem ah_L_264 : rf_ALT cq_L_264 := rf_alt_inf [(135, [], [(0, 114, Int.ofNat 0), (0, 114, Int.ofNat 0), (0, 117, Int.ofNat 0), (0, 0, Int.negSucc 0), (0, 96, Int.ofNat 0)]), (135, [], [(0, 112, Int.ofNat 0), (0, 112, Int.ofNat 0), (0, 118, Int.ofNat 0), (0, 0, Int.negSucc 0), (0, 96, Int.ofNat 0)])] (by dsimp only [cq_L_264, al_L_264])
set_option maxRecDepth 100000 in
theorem ah_L_265 : rf_ALT cq_L_265 := rf_alt_inf [(135, [], [(0, 114, Int.ofNat 0), (0, 114, Int.ofNat 0), (0, 117, Int.ofNat 0), (0, 0, Int.negSucc 0), (0, 96, Int.ofNat 0)]), (135, [], [(0, 112, Int.ofNat 0), (0, 112, Int.ofNat 0), (0, 118, Int.ofNat 0), (0, 0, Int.negSucc 0), (0, 96, Int.ofNat 0)])] (by dsimp only [cq_L_265, al_L_265])
set_option maxRecDepth 100000 in
theorem ah_L_266 : rf_ALT cq_L_266 := rf_alt_inf [(135, [], [(0, 114, Int.ofNat 0), (0, 114, Int.ofNat 0), (0, 118, Int.ofNat 0), (0, 0, Int.negSucc 0), (0, 96, Int.ofNat 0)]), (135, [], [(0, 112, Int.ofNat 0), (0, 112, Int.ofNat 0), (0, 119, Int.ofNat 0), (0, 117, Int.ofNat 0), (0, 96, Int.ofNat 0)])] (by dsimp only [cq_L_266, al_L_266])
set_option maxRecDepth 100000 in
theorem ah_L_267 : rf_ALT cq_L_267 := rf_alt_inf [(135, [], [(0, 114, Int.ofNat 0), (0, 114, Int.ofNat 0), (0, 118, Int.ofNat 0), (0, 117, Int.ofNat 0), (0, 96, Int.ofNat 0)])] (by dsimp only [cq_L_267, al_L_267])
set_option maxRecDepth 100000 in
theorem ah_L_268 : rf_ALT cq_L_268 := rf_alt_inf [(135, [], [(0, 114, Int.ofNat 0), (0, 114, Int.ofNat 0), (0, 118, Int.ofNat 0), (0, 0, Int.negSucc 0), (0, 96, Int.ofNat 0)]), (135, [], [(0, 112, Int.ofNat 0), (0, 112, Int.ofNat 0), (0, 119, Int.ofNat 0), (0, 117, Int.ofNat 0), (0, 96, Int.ofNat 0)])] (by dsimp only [cq_L_268, al_L_268])
set_option maxRecDepth 100000 in
theorem ah_L_269 : rf_ALT cq_L_269 := rf_alt_inf [(135, [], [(0, 114, Int.ofNat 0), (0, 114, Int.ofNat 0), (0, 118, Int.ofNat 0), (0, 117, Int.ofNat 0), (0, 96, Int.ofNat 0)])] (by dsimp only [cq_L_269, al_L_269])
set_option maxRecDepth 100000 in
theorem ah_L_270 : rf_ALT cq_L_270 := rf_alt_inf [(135, [], [(0, 114, Int.ofNat 0), (0, 114, Int.ofNat 0), (0, 119, Int.ofNat 0), (0, 0, Int.negSucc 0), (0, 96, Int.ofNat 0)]), (135, [], [(0, 112, Int.ofNat 0), (0, 112, Int.ofNat 0), (0, 120, Int.ofNat 0), (0, 117, Int.ofNat 0), (0, 96, Int.ofNat 0)])] (by dsimp only [cq_L_270, al_L_270])
set_option maxRecDepth 100000 in
theorem ah_L_271 : rf_ALT cq_L_271 := rf_alt_inf [(135, [], [(0, 114, Int.ofNat 0), (0, 114, Int.ofNat 0), (0, 119, Int.ofNat 0), (0, 117, Int.ofNat 0), (0, 96, Int.ofNat 0)])] (by dsimp only [cq_L_271, al_L_271])
set_option maxRecDepth 100000 in
theorem ah_L_272 : rf_ALT cq_L_272 := rf_alt_inf [(135, [], [(0, 114, Int.ofNat 0), (0, 114, Int.ofNat 0), (0, 119, Int.ofNat 0), (0, 117, Int.ofNat 0), (0, 96, Int.ofNat 0)])] (by dsimp only [cq_L_272, al_L_272])
set_option maxRecDepth 100000 in
theorem ah_L_273 : rf_ALT cq_L_273 := rf_alt_inf [(135, [], [(0, 114, Int.ofNat 0), (0, 114, Int.ofNat 0), (0, 119, Int.ofNat 0), (0, 0, Int.negSucc 0), (0, 96, Int.ofNat 0)]), (135, [], [(0, 112, Int.ofNat 0), (0, 112, Int.ofNat 0), (0, 120, Int.ofNat 0), (0, 117, Int.ofNat 0), (0, 96, Int.ofNat 0)])] (by dsimp only [cq_L_273, al_L_273])
set_option maxRecDepth 100000 in
theorem ah_L_274 : rf_ALT cq_L_274 := rf_alt_inf [(135, [], [(0, 114, Int.ofNat 0), (0, 114, Int.ofNat 0), (0, 119, Int.ofNat 0), (0, 117, Int.ofNat 0), (0, 96, Int.ofNat 0)])] (by dsimp only [cq_L_274, al_L_274])
set_option maxRecDepth 100000 in
theorem ah_L_275 : rf_ALT cq_L_275 := rf_alt_inf [(135, [], [(0, 114, Int.ofNat 0), (0, 114, Int.ofNat 0), (0, 119, Int.ofNat 0), (0, 117, Int.ofNat 0), (0, 96, Int.ofNat 0)])] (by dsimp only [cq_L_275, al_L_275])
set_option maxRecDepth 100000 in
theorem ah_L_276 : rf_ALT cq_L_276 := rf_alt_inf [(135, [], [(0, 114, Int.ofNat 0), (0, 114, Int.ofNat 0), (0, 120, Int.ofNat 0), (0, 117, Int.ofNat 0), (0, 96, Int.ofNat 0)])] (by dsimp only [cq_L_276, al_L_276])
set_option maxRecDepth 100000 in
theorem ah_L_277 : rf_ALT cq_L_277 := rf_alt_inf [(135, [], [(0, 114, Int.ofNat 0), (0, 114, Int.ofNat 0), (0, 120, Int.ofNat 0), (0, 117, Int.ofNat 0), (0, 96, Int.ofNat 0)])] (by dsimp only [cq_L_277, al_L_277])
set_option maxRecDepth 100000 in
theorem ah_L_278 : rf_ALT cq_L_278 := rf_alt_inf [(135, [], [(0, 114, Int.ofNat 0), (0, 114, Int.ofNat 0), (0, 120, Int.ofNat 0), (0, 117, Int.ofNat 0), (0, 96, Int.ofNat 0)])] (by dsimp only [cq_L_278, al_L_278])
set_option maxRecDepth 100000 in
theorem ah_L_279 : rf_ALT cq_L_279 := rf_alt_inf [(135, [], [(0, 114, Int.ofNat 0), (0, 114, Int.ofNat 0), (0, 120, Int.ofNat 0), (0, 117, Int.ofNat 0), (0, 96, Int.ofNat 0)])] (by dsimp only [cq_L_279, al_L_279])
set_option maxRecDepth 100000 in
theorem ah_L_280 : rf_ALT cq_L_280 := rf_alt_inf [(135, [], [(0, 114, Int.ofNat 0), (0, 114, Int.ofNat 0), (0, 117, Int.ofNat 0), (0, 0, Int.negSucc 0), (0, 96, Int.ofNat 0)])] (by dsimp only [cq_L_280, al_L_280])
set_option maxRecDepth 100000 in
theorem ah_L_281 : rf_ALT cq_L_281 := rf_alt_inf [(135, [], [(0, 114, Int.ofNat 0), (0, 114, Int.ofNat 0), (0, 118, Int.ofNat 0), (0, 0, Int.negSucc 0), (0, 96, Int.ofNat 0)])] (by dsimp only [cq_L_281, al_L_281])
set_option maxRecDepth 100000 in
theorem ah_L_282 : rf_ALT cq_L_282 := rf_alt_inf [(135, [], [(0, 114, Int.ofNat 0), (0, 114, Int.ofNat 0), (0, 118, Int.ofNat 0), (0, 117, Int.ofNat 0), (0, 96, Int.ofNat 0)])] (by dsimp only [cq_L_282, al_L_282])
set_option maxRecDepth 100000 in
theorem ah_L_283 : rf_ALT cq_L_283 := rf_alt_inf [(135, [], [(0, 114, Int.ofNat 0), (0, 114, Int.ofNat 0), (0, 119, Int.ofNat 0), (0, 0, Int.negSucc 0), (0, 96, Int.ofNat 0)])] (by dsimp only [cq_L_283, al_L_283])
set_option maxRecDepth 100000 in
theorem ah_L_284 : rf_ALT cq_L_284 := rf_alt_inf [(135, [], [(0, 114, Int.ofNat 0), (0, 114, Int.ofNat 0), (0, 119, Int.ofNat 0), (0, 117, Int.ofNat 0), (0, 96, Int.ofNat 0)]), (135, [], [(0, 112, Int.ofNat 0), (0, 112, Int.ofNat 0), (0, 120, Int.ofNat 0), (0, 0, Int.negSucc 0), (0, 96, Int.ofNat 0)])] (by dsimp only [cq_L_284, al_L_284])
set_option maxRecDepth 100000 in
theorem ah_L_285 : rf_ALT cq_L_285 := rf_alt_inf [(135, [], [(0, 114, Int.ofNat 0), (0, 114, Int.ofNat 0), (0, 119, Int.ofNat 0), (0, 117, Int.ofNat 0), (0, 96, Int.ofNat 0)])] (by dsimp only [cq_L_285, al_L_285])
set_option maxRecDepth 100000 in
theorem ah_L_286 : rf_ALT cq_L_286 := rf_alt_inf [(135, [], [(0, 114, Int.ofNat 0), (0, 114, Int.ofNat 0), (0, 120, Int.ofNat 0), (0, 117, Int.ofNat 0), (0, 96, Int.ofNat 0)]), (135, [], [(0, 112, Int.ofNat 0), (0, 112, Int.ofNat 0), (0, 121, Int.ofNat 0), (0, 119, Int.ofNat 0), (0, 96, Int.ofNat 0)])] (by dsimp only [cq_L_286, al_L_286])
set_option maxRecDepth 100000 in
theorem ah_L_287 : rf_ALT cq_L_287 := rf_alt_inf [(135, [], [(0, 114, Int.ofNat 0), (0, 114, Int.ofNat 0), (0, 120, Int.ofNat 0), (0, 117, Int.ofNat 0), (0, 96, Int.ofNat 0)])] (by dsimp only [cq_L_287, al_L_287])
set_option maxRecDepth 100000 in
theorem ah_L_288 : rf_ALT cq_L_288 := rf_alt_inf [(135, [], [(0, 114, Int.ofNat 0), (0, 114, Int.ofNat 0), (0, 117, Int.ofNat 0), (0, 0, Int.negSucc 0), (0, 96, Int.ofNat 0)])] (by dsimp only [cq_L_288, al_L_288])
set_option maxRecDepth 100000 in
theorem ah_L_289 : rf_ALT cq_L_289 := rf_alt_inf [(135, [], [(0, 114, Int.ofNat 0), (0, 114, Int.ofNat 0), (0, 117, Int.ofNat 0), (0, 0, Int.negSucc 0), (0, 96, Int.ofNat 0)])] (by dsimp only [cq_L_289, al_L_289])
set_option maxRecDepth 100000 in
theorem ah_L_290 : rf_ALT cq_L_290 := rf_alt_inf [(135, [], [(0, 114, Int.ofNat 0), (0, 114, Int.ofNat 0), (0, 118, Int.ofNat 0), (0, 0, Int.negSucc 0), (0, 96, Int.ofNat 0)])] (by dsimp only [cq_L_290, al_L_290])
set_option maxRecDepth 100000 in
theorem ah_L_291 : rf_ALT cq_L_291 := rf_alt_inf [(135, [], [(0, 114, Int.ofNat 0), (0, 114, Int.ofNat 0), (0, 118, Int.ofNat 0), (0, 117, Int.ofNat 0), (0, 96, Int.ofNat 0)]), (135, [], [(0, 112, Int.ofNat 0), (0, 112, Int.ofNat 0), (0, 119, Int.ofNat 0), (0, 0, Int.negSucc 0), (0, 96, Int.ofNat 0)])] (by dsimp only [cq_L_291, al_L_291])
set_option maxRecDepth 100000 in
theorem ah_L_292 : rf_ALT cq_L_292 := rf_alt_inf [(135, [], [(0, 114, Int.ofNat 0), (0, 114, Int.ofNat 0), (0, 118, Int.ofNat 0), (0, 0, Int.negSucc 0), (0, 96, Int.ofNat 0)])] (by dsimp only [cq_L_292, al_L_292])
set_option maxRecDepth 100000 in
theorem ah_L_293 : rf_ALT cq_L_293 := rf_alt_inf [(135, [], [(0, 114, Int.ofNat 0), (0, 114, Int.ofNat 0), (0, 118, Int.ofNat 0), (0, 117, Int.ofNat 0), (0, 96, Int.ofNat 0)]), (135, [], [(0, 112, Int.ofNat 0), (0, 112, Int.ofNat 0), (0, 119, Int.ofNat 0), (0, 0, Int.negSucc 0), (0, 96, Int.ofNat 0)])] (by dsimp only [cq_L_293, al_L_293])
set_option maxRecDepth 100000 in
theorem ah_L_294 : rf_ALT cq_L_294 := rf_alt_inf [(135, [], [(0, 114, Int.ofNat 0), (0, 114, Int.ofNat 0), (0, 119, Int.ofNat 0), (0, 0, Int.negSucc 0), (0, 96, Int.ofNat 0)])] (by dsimp only [cq_L_294, al_L_294])
set_option maxRecDepth 100000 in
theorem ah_L_295 : rf_ALT cq_L_295 := rf_alt_inf [(135, [], [(0, 114, Int.ofNat 0), (0, 114, Int.ofNat 0), (0, 119, Int.ofNat 0), (0, 117, Int.ofNat 0), (0, 96, Int.ofNat 0)])] (by dsimp only [cq_L_295, al_L_295])
set_option maxRecDepth 100000 in
theorem ah_L_296 : rf_ALT cq_L_296 := rf_alt_inf [(135, [], [(0, 114, Int.ofNat 0), (0, 114, Int.ofNat 0), (0, 119, Int.ofNat 0), (0, 117, Int.ofNat 0), (0, 96, Int.ofNat 0)]), (135, [], [(0, 112, Int.ofNat 0), (0, 112, Int.ofNat 0), (0, 120, Int.ofNat 0), (0, 118, Int.ofNat 0), (0, 96, Int.ofNat 0)])] (by dsimp only [cq_L_296, al_L_296])
set_option maxRecDepth 100000 in
theorem ah_L_297 : rf_ALT cq_L_297 := rf_alt_inf [(135, [], [(0, 114, Int.ofNat 0), (0, 114, Int.ofNat 0), (0, 119, Int.ofNat 0), (0, 0, Int.negSucc 0), (0, 96, Int.ofNat 0)])] (by dsimp only [cq_L_297, al_L_297])
set_option maxRecDepth 100000 in
theorem ah_L_298 : rf_ALT cq_L_298 := rf_alt_inf [(135, [], [(0, 114, Int.ofNat 0), (0, 114, Int.ofNat 0), (0, 119, Int.ofNat 0), (0, 117, Int.ofNat 0), (0, 96, Int.ofNat 0)])] (by dsimp only [cq_L_298, al_L_298])
set_option maxRecDepth 100000 in
theorem ah_L_299 : rf_ALT cq_L_299 := rf_alt_inf [(135, [], [(0, 114, Int.ofNat 0), (0, 114, Int.ofNat 0), (0, 119, Int.ofNat 0), (0, 117, Int.ofNat 0), (0, 96, Int.ofNat 0)]), (135, [], [(0, 112, Int.ofNat 0), (0, 112, Int.ofNat 0), (0, 120, Int.ofNat 0), (0, 118, Int.ofNat 0), (0, 96, Int.ofNat 0)])] (by dsimp only [cq_L_299, al_L_299])
set_option maxRecDepth 100000 in
theorem ah_L_300 : rf_ALT cq_L_300 := rf_alt_inf [(135, [], [(0, 114, Int.ofNat 0), (0, 114, Int.ofNat 0), (0, 120, Int.ofNat 0), (0, 117, Int.ofNat 0), (0, 96, Int.ofNat 0)])] (by dsimp only [cq_L_300, al_L_300])
set_option maxRecDepth 100000 in
theorem ah_L_301 : rf_ALT cq_L_301 := rf_alt_inf [(135, [], [(0, 114, Int.ofNat 0), (0, 114, Int.ofNat 0), (0, 120, Int.ofNat 0), (0, 117, Int.ofNat 0), (0, 96, Int.ofNat 0)]), (135, [], [(0, 112, Int.ofNat 0), (0, 112, Int.ofNat 0), (0, 121, Int.ofNat 0), (0, 118, Int.ofNat 0), (0, 96, Int.ofNat 0)])] (by dsimp only [cq_L_301, al_L_301])
set_option maxRecDepth 100000 in
theorem ah_L_302 : rf_ALT cq_L_302 := rf_alt_inf [(135, [], [(0, 114, Int.ofNat 0), (0, 114, Int.ofNat 0), (0, 120, Int.ofNat 0), (0, 117, Int.ofNat 0), (0, 96, Int.ofNat 0)])] (by dsimp only [cq_L_302, al_L_302])
set_option maxRecDepth 100000 in
theorem ah_L_303 : rf_ALT cq_L_303 := rf_alt_inf [(135, [], [(0, 114, Int.ofNat 0), (0, 114, Int.ofNat 0), (0, 120, Int.ofNat 0), (0, 117, Int.ofNat 0), (0, 96, Int.ofNat 0)]), (135, [], [(0, 112, Int.ofNat 0), (0, 112, Int.ofNat 0), (0, 121, Int.ofNat 0), (0, 118, Int.ofNat 0), (0, 96, Int.ofNat 0)])] (by dsimp only [cq_L_303, al_L_303])
set_option maxRecDepth 100000 in
theorem ah_L_304 : rf_ALT cq_L_304 := rf_alt_inf [(135, [], [(0, 114, Int.ofNat 0), (0, 114, Int.ofNat 0), (0, 117, Int.ofNat 0), (0, 0, Int.negSucc 0), (0, 96, Int.ofNat 0)])] (by dsimp only [cq_L_304, al_L_304])
set_option maxRecDepth 100000 in
theorem ah_L_305 : rf_ALT cq_L_305 := rf_alt_inf [(135, [], [(0, 112, Int.ofNat 0), (0, 112, Int.ofNat 0), (0, 121, Int.ofNat 0), (0, 119, Int.ofNat 0), (0, 96, Int.ofNat 0)])] (by dsimp only [cq_L_305, al_L_305])
set_option maxRecDepth 100000 in
theorem ah_L_306 : rf_ALT cq_L_306 := rf_alt_inf [(135, [], [(0, 114, Int.ofNat 0), (0, 114, Int.ofNat 0), (0, 121, Int.ofNat 0), (0, 117, Int.ofNat 0), (0, 96, Int.ofNat 0)])] (by dsimp only [cq_L_306, al_L_306])
set_option maxRecDepth 100000 in
theorem ah_L_307 : rf_ALT cq_L_307 := rf_alt_inf [(135, [], [(0, 114, Int.ofNat 0), (0, 114, Int.ofNat 0), (0, 121, Int.ofNat 0), (0, 117, Int.ofNat 0), (0, 96, Int.ofNat 0)])] (by dsimp only [cq_L_307, al_L_307])
set_option maxRecDepth 100000 in
theorem ah_L_308 : rf_ALT cq_L_308 := rf_alt_inf [(135, [], [(0, 114, Int.ofNat 0), (0, 114, Int.ofNat 0), (0, 121, Int.ofNat 0), (0, 117, Int.ofNat 0), (0, 96, Int.ofNat 0)]), (135, [], [(0, 112, Int.ofNat 0), (0, 112, Int.ofNat 0), (0, 122, Int.ofNat 0), (0, 119, Int.ofNat 0), (0, 96, Int.ofNat 0)])] (by dsimp only [cq_L_308, al_L_308])
set_option maxRecDepth 100000 in
theorem ah_L_309 : rf_ALT cq_L_309 := rf_alt_inf [(135, [], [(0, 114, Int.ofNat 0), (0, 114, Int.ofNat 0), (0, 121, Int.ofNat 0), (0, 117, Int.ofNat 0), (0, 96, Int.ofNat 0)])] (by dsimp only [cq_L_309, al_L_309])
set_option maxRecDepth 100000 in
theorem ah_L_310 : rf_ALT cq_L_310 := rf_alt_inf [(135, [], [(0, 114, Int.ofNat 0), (0, 114, Int.ofNat 0), (0, 121, Int.ofNat 0), (0, 117, Int.ofNat 0), (0, 96, Int.ofNat 0)])] (by dsimp only [cq_L_310, al_L_310])
set_option maxRecDepth 100000 in
theorem ah_L_311 : rf_ALT cq_L_311 := rf_alt_inf [(135, [], [(0, 114, Int.ofNat 0), (0, 114, Int.ofNat 0), (0, 121, Int.ofNat 0), (0, 117, Int.ofNat 0), (0, 96, Int.ofNat 0)]), (135, [], [(0, 112, Int.ofNat 0), (0, 112, Int.ofNat 0), (0, 122, Int.ofNat 0), (0, 119, Int.ofNat 0), (0, 96, Int.ofNat 0)])] (by dsimp only [cq_L_311, al_L_311])
set_option maxRecDepth 100000 in
theorem ah_L_312 : rf_ALT cq_L_312 := rf_alt_inf [(135, [], [(0, 114, Int.ofNat 0), (0, 114, Int.ofNat 0), (0, 121, Int.ofNat 0), (0, 117, Int.ofNat 0), (0, 96, Int.ofNat 0)]), (135, [], [(0, 112, Int.ofNat 0), (0, 112, Int.ofNat 0), (0, 122, Int.ofNat 0), (0, 119, Int.ofNat 0), (0, 96, Int.ofNat 0)]), (151, [], [(0, 121, Int.ofNat 0), (0, 119, Int.ofNat 0), (0, 121, Int.ofNat 0), (0, 121, Int.ofNat 0)])] (by dsimp only [cq_L_312, al_L_312])
set_option maxRecDepth 100000 in
theorem ah_L_313 : rf_ALT cq_L_313 := rf_alt_inf [(135, [], [(0, 114, Int.ofNat 0), (0, 114, Int.ofNat 0), (0, 117, Int.ofNat 0), (0, 0, Int.negSucc 0), (0, 96, Int.ofNat 0)])] (by dsimp only [cq_L_313, al_L_313])
set_option maxRecDepth 100000 in
theorem ah_L_314 : rf_ALT cq_L_314 := rf_alt_inf [(135, [], [(0, 114, Int.ofNat 0), (0, 114, Int.ofNat 0), (0, 118, Int.ofNat 0), (0, 0, Int.negSucc 0), (0, 96, Int.ofNat 0)])] (by dsimp only [cq_L_314, al_L_314])
set_option maxRecDepth 100000 in
theorem ah_L_315 : rf_ALT cq_L_315 := rf_alt_inf [(135, [], [(0, 114, Int.ofNat 0), (0, 114, Int.ofNat 0), (0, 118, Int.ofNat 0), (0, 117, Int.ofNat 0), (0, 96, Int.ofNat 0)])] (by dsimp only [cq_L_315, al_L_315])
set_option maxRecDepth 100000 in
theorem ah_L_316 : rf_ALT cq_L_316 := rf_alt_inf [(135, [], [(0, 112, Int.ofNat 0), (0, 112, Int.ofNat 0), (0, 121, Int.ofNat 0), (0, 119, Int.ofNat 0), (0, 96, Int.ofNat 0)])] (by dsimp only [cq_L_316, al_L_316])
set_option maxRecDepth 100000 in
theorem ah_L_317 : rf_ALT cq_L_317 := rf_alt_inf [(135, [], [(0, 114, Int.ofNat 0), (0, 114, Int.ofNat 0), (0, 121, Int.ofNat 0), (0, 117, Int.ofNat 0), (0, 96, Int.ofNat 0)])] (by dsimp only [cq_L_317, al_L_317])
set_option maxRecDepth 100000 in
theorem ah_L_318 : rf_ALT cq_L_318 := rf_alt_inf [(135, [], [(0, 114, Int.ofNat 0), (0, 114, Int.ofNat 0), (0, 121, Int.ofNat 0), (0, 117, Int.ofNat 0), (0, 96, Int.ofNat 0)])] (by dsimp only [cq_L_318, al_L_318])
set_option maxRecDepth 100000 in
theorem ah_L_319 : rf_ALT cq_L_319 := rf_alt_inf [(135, [], [(0, 114, Int.ofNat 0), (0, 114, Int.ofNat 0), (0, 121, Int.ofNat 0), (0, 117, Int.ofNat 0), (0, 96, Int.ofNat 0)]), (135, [], [(0, 112, Int.ofNat 0), (0, 112, Int.ofNat 0), (0, 122, Int.ofNat 0), (0, 119, Int.ofNat 0), (0, 96, Int.ofNat 0)])] (by dsimp only [cq_L_319, al_L_319])
set_option maxRecDepth 100000 in
theorem ah_L_320 : rf_ALT cq_L_320 := rf_alt_inf [(135, [], [(0, 114, Int.ofNat 0), (0, 114, Int.ofNat 0), (0, 121, Int.ofNat 0), (0, 117, Int.ofNat 0), (0, 96, Int.ofNat 0)])] (by dsimp only [cq_L_320, al_L_320])
set_option maxRecDepth 100000 in
theorem ah_L_321 : rf_ALT cq_L_321 := rf_alt_inf [(135, [], [(0, 114, Int.ofNat 0), (0, 114, Int.ofNat 0), (0, 121, Int.ofNat 0), (0, 117, Int.ofNat 0), (0, 96, Int.ofNat 0)])] (by dsimp only [cq_L_321, al_L_321])
set_option maxRecDepth 100000 in
theorem ah_L_322 : rf_ALT cq_L_322 := rf_alt_inf [(135, [], [(0, 114, Int.ofNat 0), (0, 114, Int.ofNat 0), (0, 121, Int.ofNat 0), (0, 117, Int.ofNat 0), (0, 96, Int.ofNat 0)]), (135, [], [(0, 112, Int.ofNat 0), (0, 112, Int.ofNat 0), (0, 122, Int.ofNat 0), (0, 119, Int.ofNat 0), (0, 96, Int.ofNat 0)]), (151, [], [(0, 121, Int.ofNat 0), (0, 122, Int.ofNat 0), (0, 122, Int.ofNat 0), (0, 117, Int.ofNat 0)])] (by dsimp only [cq_L_322, al_L_322])
set_option maxRecDepth 100000 in
theorem ah_L_323 : rf_ALT cq_L_323 := rf_alt_inf [(135, [], [(0, 114, Int.ofNat 0), (0, 114, Int.ofNat 0), (0, 121, Int.ofNat 0), (0, 117, Int.ofNat 0), (0, 96, Int.ofNat 0)]), (135, [], [(0, 112, Int.ofNat 0), (0, 112, Int.ofNat 0), (0, 122, Int.ofNat 0), (0, 119, Int.ofNat 0), (0, 96, Int.ofNat 0)])] (by dsimp only [cq_L_323, al_L_323])
set_option maxRecDepth 100000 in
theorem ah_L_324 : rf_ALT cq_L_324 := rf_alt_inf [(135, [], [(0, 114, Int.ofNat 0), (0, 114, Int.ofNat 0), (0, 118, Int.ofNat 0), (0, 0, Int.negSucc 0), (0, 96, Int.ofNat 0)])] (by dsimp only [cq_L_324, al_L_324])
set_option maxRecDepth 100000 in
theorem ah_L_325 : rf_ALT cq_L_325 := rf_alt_inf [(135, [], [(0, 114, Int.ofNat 0), (0, 114, Int.ofNat 0), (0, 118, Int.ofNat 0), (0, 117, Int.ofNat 0), (0, 96, Int.ofNat 0)])] (by dsimp only [cq_L_325, al_L_325])
set_option maxRecDepth 100000 in
theorem ah_L_326 : rf_ALT cq_L_326 := rf_alt_inf [(135, [], [(0, 114, Int.ofNat 0), (0, 114, Int.ofNat 0), (0, 119, Int.ofNat 0), (0, 0, Int.negSucc 0), (0, 96, Int.ofNat 0)])] (by dsimp only [cq_L_326, al_L_326])
set_option maxRecDepth 100000 in
theorem ah_L_327 : rf_ALT cq_L_327 := rf_alt_inf [(135, [], [(0, 114, Int.ofNat 0), (0, 114, Int.ofNat 0), (0, 119, Int.ofNat 0), (0, 117, Int.ofNat 0), (0, 96, Int.ofNat 0)]), (135, [], [(0, 112, Int.ofNat 0), (0, 112, Int.ofNat 0), (0, 120, Int.ofNat 0), (0, 0, Int.negSucc 0), (0, 96, Int.ofNat 0)])] (by dsimp only [cq_L_327, al_L_327])
set_option maxRecDepth 100000 in
theorem ah_L_328 : rf_ALT cq_L_328 := rf_alt_inf [(135, [], [(0, 114, Int.ofNat 0), (0, 114, Int.ofNat 0), (0, 119, Int.ofNat 0), (0, 117, Int.ofNat 0), (0, 96, Int.ofNat 0)])] (by dsimp only [cq_L_328, al_L_328])
set_option maxRecDepth 100000 in
theorem ah_L_329 : rf_ALT cq_L_329 := rf_alt_inf [(135, [], [(0, 114, Int.ofNat 0), (0, 114, Int.ofNat 0), (0, 119, Int.ofNat 0), (0, 0, Int.negSucc 0), (0, 96, Int.ofNat 0)])] (by dsimp only [cq_L_329, al_L_329])
set_option maxRecDepth 100000 in
theorem ah_L_330 : rf_ALT cq_L_330 := rf_alt_inf [(135, [], [(0, 114, Int.ofNat 0), (0, 114, Int.ofNat 0), (0, 119, Int.ofNat 0), (0, 117, Int.ofNat 0), (0, 96, Int.ofNat 0)]), (135, [], [(0, 112, Int.ofNat 0), (0, 112, Int.ofNat 0), (0, 120, Int.ofNat 0), (0, 0, Int.negSucc 0), (0, 96, Int.ofNat 0)])] (by dsimp only [cq_L_330, al_L_330])
set_option maxRecDepth 100000 in
theorem ah_L_331 : rf_ALT cq_L_331 := rf_alt_inf [(135, [], [(0, 114, Int.ofNat 0), (0, 114, Int.ofNat 0), (0, 119, Int.ofNat 0), (0, 117, Int.ofNat 0), (0, 96, Int.ofNat 0)])] (by dsimp only [cq_L_331, al_L_331])
set_option maxRecDepth 100000 in
theorem ah_L_332 : rf_ALT cq_L_332 := rf_alt_inf [(135, [], [(0, 114, Int.ofNat 0), (0, 114, Int.ofNat 0), (0, 120, Int.ofNat 0), (0, 117, Int.ofNat 0), (0, 96, Int.ofNat 0)]), (135, [], [(0, 112, Int.ofNat 0), (0, 112, Int.ofNat 0), (0, 121, Int.ofNat 0), (0, 119, Int.ofNat 0), (0, 96, Int.ofNat 0)])] (by dsimp only [cq_L_332, al_L_332])
set_option maxRecDepth 100000 in
theorem ah_L_333 : rf_ALT cq_L_333 := rf_alt_inf [(135, [], [(0, 114, Int.ofNat 0), (0, 114, Int.ofNat 0), (0, 120, Int.ofNat 0), (0, 117, Int.ofNat 0), (0, 96, Int.ofNat 0)])] (by dsimp only [cq_L_333, al_L_333])
set_option maxRecDepth 100000 in
theorem ah_L_334 : rf_ALT cq_L_334 := rf_alt_inf [(135, [], [(0, 114, Int.ofNat 0), (0, 114, Int.ofNat 0), (0, 120, Int.ofNat 0), (0, 117, Int.ofNat 0), (0, 96, Int.ofNat 0)]), (135, [], [(0, 112, Int.ofNat 0), (0, 112, Int.ofNat 0), (0, 121, Int.ofNat 0), (0, 119, Int.ofNat 0), (0, 96, Int.ofNat 0)])] (by dsimp only [cq_L_334, al_L_334])
set_option maxRecDepth 100000 in
theorem ah_L_335 : rf_ALT cq_L_335 := rf_alt_inf [(135, [], [(0, 114, Int.ofNat 0), (0, 114, Int.ofNat 0), (0, 120, Int.ofNat 0), (0, 117, Int.ofNat 0), (0, 96, Int.ofNat 0)])] (by dsimp only [cq_L_335, al_L_335])
set_option maxRecDepth 100000 in
theorem ah_L_336 : rf_ALT cq_L_336 := rf_alt_inf [] (by dsimp only [cq_L_336, al_L_336])
set_option maxRecDepth 100000 in
theorem ah_L_337 : rf_ALT cq_L_337 := rf_alt_inf [(135, [], [(0, 114, Int.ofNat 0), (0, 114, Int.ofNat 0), (0, 117, Int.ofNat 0), (0, 0, Int.negSucc 0), (0, 96, Int.ofNat 0)])] (by dsimp only [cq_L_337, al_L_337])
set_option maxRecDepth 100000 in
theorem ah_L_338 : rf_ALT cq_L_338 := rf_alt_inf [(135, [], [(0, 114, Int.ofNat 0), (0, 114, Int.ofNat 0), (0, 121, Int.ofNat 0), (0, 117, Int.ofNat 0), (0, 96, Int.ofNat 0)]), (135, [], [(0, 112, Int.ofNat 0), (0, 112, Int.ofNat 0), (0, 122, Int.ofNat 0), (0, 119, Int.ofNat 0), (0, 96, Int.ofNat 0)]), (147, [], [(0, 1, Int.ofNat 0), (0, 0, Int.ofNat 6), (0, 1, Int.negSucc 5), (0, 115, Int.ofNat 0)]), (151, [], [(0, 121, Int.ofNat 0), (0, 119, Int.ofNat 0), (0, 121, Int.ofNat 0), (0, 121, Int.ofNat 0)])] (by dsimp only [cq_L_338, al_L_338])
set_option maxRecDepth 100000 in
theorem ah_L_339 : rf_ALT cq_L_339 := rf_alt_inf [(135, [], [(0, 114, Int.ofNat 0), (0, 114, Int.ofNat 0), (0, 121, Int.ofNat 0), (0, 117, Int.ofNat 0), (0, 96, Int.ofNat 0)]), (135, [], [(0, 112, Int.ofNat 0), (0, 112, Int.ofNat 0), (0, 122, Int.ofNat 0), (0, 119, Int.ofNat 0), (0, 96, Int.ofNat 0)]), (147, [], [(0, 1, Int.ofNat 0), (0, 0, Int.ofNat 6), (0, 1, Int.negSucc 5), (0, 115, Int.ofNat 0)])] (by dsimp only [cq_L_339, al_L_339])
set_option maxRecDepth 100000 in
theorem ah_L_340 : rf_ALT cq_L_340 := rf_alt_inf [(135, [], [(0, 114, Int.ofNat 0), (0, 114, Int.ofNat 0), (0, 118, Int.ofNat 0), (0, 0, Int.negSucc 0), (0, 96, Int.ofNat 0)])] (by dsimp only [cq_L_340, al_L_340])
set_option maxRecDepth 100000 in
theorem ah_L_341 : rf_ALT cq_L_341 := rf_alt_inf [(135, [], [(0, 114, Int.ofNat 0), (0, 114, Int.ofNat 0), (0, 118, Int.ofNat 0), (0, 117, Int.ofNat 0), (0, 96, Int.ofNat 0)])] (by dsimp only [cq_L_341, al_L_341])
set_option maxRecDepth 100000 in
theorem ah_L_342 : rf_ALT cq_L_342 := rf_alt_inf [(135, [], [(0, 114, Int.ofNat 0), (0, 114, Int.ofNat 0), (0, 121, Int.ofNat 0), (0, 117, Int.ofNat 0), (0, 96, Int.ofNat 0)]), (135, [], [(0, 112, Int.ofNat 0), (0, 112, Int.ofNat 0), (0, 122, Int.ofNat 0), (0, 119, Int.ofNat 0), (0, 96, Int.ofNat 0)]), (147, [], [(0, 1, Int.ofNat 0), (0, 0, Int.ofNat 6), (0, 1, Int.negSucc 5), (0, 115, Int.ofNat 0)]), (151, [], [(0, 122, Int.ofNat 0), (0, 117, Int.ofNat 0), (0, 121, Int.ofNat 0), (0, 121, Int.ofNat 0)])] (by dsimp only [cq_L_342, al_L_342])
set_option maxRecDepth 100000 in
theorem ah_L_343 : rf_ALT cq_L_343 := rf_alt_inf [(135, [], [(0, 114, Int.ofNat 0), (0, 114, Int.ofNat 0), (0, 119, Int.ofNat 0), (0, 0, Int.negSucc 0), (0, 96, Int.ofNat 0)])] (by dsimp only [cq_L_343, al_L_343])
set_option maxRecDepth 100000 in
theorem ah_L_344 : rf_ALT cq_L_344 := rf_alt_inf [(135, [], [(0, 114, Int.ofNat 0), (0, 114, Int.ofNat 0), (0, 119, Int.ofNat 0), (0, 117, Int.ofNat 0), (0, 96, Int.ofNat 0)]), (135, [], [(0, 112, Int.ofNat 0), (0, 112, Int.ofNat 0), (0, 120, Int.ofNat 0), (0, 0, Int.negSucc 0), (0, 96, Int.ofNat 0)])] (by dsimp only [cq_L_344, al_L_344])
set_option maxRecDepth 100000 in
theorem ah_L_345 : rf_ALT cq_L_345 := rf_alt_inf [(135, [], [(0, 114, Int.ofNat 0), (0, 114, Int.ofNat 0), (0, 119, Int.ofNat 0), (0, 117, Int.ofNat 0), (0, 96, Int.ofNat 0)])] (by dsimp only [cq_L_345, al_L_345])
set_option maxRecDepth 100000 in
theorem ah_L_346 : rf_ALT cq_L_346 := rf_alt_inf [(135, [], [(0, 114, Int.ofNat 0), (0, 114, Int.ofNat 0), (0, 120, Int.ofNat 0), (0, 117, Int.ofNat 0), (0, 96, Int.ofNat 0)]), (135, [], [(0, 112, Int.ofNat 0), (0, 112, Int.ofNat 0), (0, 121, Int.ofNat 0), (0, 119, Int.ofNat 0), (0, 96, Int.ofNat 0)])] (by dsimp only [cq_L_346, al_L_346])
set_option maxRecDepth 100000 in
theorem ah_L_347 : rf_ALT cq_L_347 := rf_alt_inf [(135, [], [(0, 114, Int.ofNat 0), (0, 114, Int.ofNat 0), (0, 120, Int.ofNat 0), (0, 117, Int.ofNat 0), (0, 96, Int.ofNat 0)])] (by dsimp only [cq_L_347, al_L_347])
set_option maxRecDepth 100000 in
theorem ah_L_348 : rf_ALT cq_L_348 := rf_alt_inf [(135, [], [(0, 114, Int.ofNat 0), (0, 114, Int.ofNat 0), (0, 117, Int.ofNat 0), (0, 0, Int.negSucc 0), (0, 96, Int.ofNat 0)])] (by dsimp only [cq_L_348, al_L_348])
set_option maxRecDepth 100000 in
theorem ah_L_349 : rf_ALT cq_L_349 := rf_alt_inf [(135, [], [(0, 114, Int.ofNat 0), (0, 114, Int.ofNat 0), (0, 121, Int.ofNat 0), (0, 117, Int.ofNat 0), (0, 96, Int.ofNat 0)]), (135, [], [(0, 112, Int.ofNat 0), (0, 112, Int.ofNat 0), (0, 122, Int.ofNat 0), (0, 119, Int.ofNat 0), (0, 96, Int.ofNat 0)]), (147, [], [(0, 1, Int.ofNat 0), (0, 0, Int.ofNat 6), (0, 1, Int.negSucc 5), (0, 113, Int.ofNat 0)]), (151, [], [(0, 121, Int.ofNat 0), (0, 119, Int.ofNat 0), (0, 121, Int.ofNat 0), (0, 121, Int.ofNat 0)])] (by dsimp only [cq_L_349, al_L_349])
set_option maxRecDepth 100000 in
theorem ah_L_350 : rf_ALT cq_L_350 := rf_alt_inf [(135, [], [(0, 114, Int.ofNat 0), (0, 114, Int.ofNat 0), (0, 121, Int.ofNat 0), (0, 117, Int.ofNat 0), (0, 96, Int.ofNat 0)]), (135, [], [(0, 112, Int.ofNat 0), (0, 112, Int.ofNat 0), (0, 122, Int.ofNat 0), (0, 119, Int.ofNat 0), (0, 96, Int.ofNat 0)]), (147, [], [(0, 1, Int.ofNat 0), (0, 0, Int.ofNat 6), (0, 1, Int.negSucc 5), (0, 113, Int.ofNat 0)])] (by dsimp only [cq_L_350, al_L_350])
set_option maxRecDepth 100000 in
theorem ah_L_351 : rf_ALT cq_L_351 := rf_alt_inf [(135, [], [(0, 114, Int.ofNat 0), (0, 114, Int.ofNat 0), (0, 118, Int.ofNat 0), (0, 0, Int.negSucc 0), (0, 96, Int.ofNat 0)])] (by dsimp only [cq_L_351, al_L_351])
set_option maxRecDepth 100000 in
theorem ah_L_352 : rf_ALT cq_L_352 := rf_alt_inf [(135, [], [(0, 114, Int.ofNat 0), (0, 114, Int.ofNat 0), (0, 118, Int.ofNat 0), (0, 117, Int.ofNat 0), (0, 96, Int.ofNat 0)])] (by dsimp only [cq_L_352, al_L_352])
set_option maxRecDepth 100000 in
theorem ah_L_353 : rf_ALT cq_L_353 := rf_alt_inf [(135, [], [(0, 114, Int.ofNat 0), (0, 114, Int.ofNat 0), (0, 121, Int.ofNat 0), (0, 117, Int.ofNat 0), (0, 96, Int.ofNat 0)]), (135, [], [(0, 112, Int.ofNat 0), (0, 112, Int.ofNat 0), (0, 122, Int.ofNat 0), (0, 119, Int.ofNat 0), (0, 96, Int.ofNat 0)]), (147, [], [(0, 1, Int.ofNat 0), (0, 0, Int.ofNat 6), (0, 1, Int.negSucc 5), (0, 113, Int.ofNat 0)]), (151, [], [(0, 122, Int.ofNat 0), (0, 117, Int.ofNat 0), (0, 121, Int.ofNat 0), (0, 121, Int.ofNat 0)])] (by dsimp only [cq_L_353, al_L_353])
set_option maxRecDepth 100000 in
theorem ah_L_354 : rf_ALT cq_L_354 := rf_alt_inf [(135, [], [(0, 114, Int.ofNat 0), (0, 114, Int.ofNat 0), (0, 119, Int.ofNat 0), (0, 0, Int.negSucc 0), (0, 96, Int.ofNat 0)])] (by dsimp only [cq_L_354, al_L_354])
set_option maxRecDepth 100000 in
theorem ah_L_355 : rf_ALT cq_L_355 := rf_alt_inf [(135, [], [(0, 114, Int.ofNat 0), (0, 114, Int.ofNat 0), (0, 119, Int.ofNat 0), (0, 117, Int.ofNat 0), (0, 96, Int.ofNat 0)]), (135, [], [(0, 112, Int.ofNat 0), (0, 112, Int.ofNat 0), (0, 120, Int.ofNat 0), (0, 0, Int.negSucc 0), (0, 96, Int.ofNat 0)])] (by dsimp only [cq_L_355, al_L_355])
set_option maxRecDepth 100000 in
theorem ah_L_356 : rf_ALT cq_L_356 := rf_alt_inf [(135, [], [(0, 114, Int.ofNat 0), (0, 114, Int.ofNat 0), (0, 119, Int.ofNat 0), (0, 117, Int.ofNat 0), (0, 96, Int.ofNat 0)])] (by dsimp only [cq_L_356, al_L_356])
set_option maxRecDepth 100000 in
theorem ah_L_357 : rf_ALT cq_L_357 := rf_alt_inf [(135, [], [(0, 114, Int.ofNat 0), (0, 114, Int.ofNat 0), (0, 120, Int.ofNat 0), (0, 117, Int.ofNat 0), (0, 96, Int.ofNat 0)]), (135, [], [(0, 112, Int.ofNat 0), (0, 112, Int.ofNat 0), (0, 121, Int.ofNat 0), (0, 119, Int.ofNat 0), (0, 96, Int.ofNat 0)])] (by dsimp only [cq_L_357, al_L_357])
set_option maxRecDepth 100000 in
theorem ah_L_358 : rf_ALT cq_L_358 := rf_alt_inf [(135, [], [(0, 114, Int.ofNat 0), (0, 114, Int.ofNat 0), (0, 120, Int.ofNat 0), (0, 117, Int.ofNat 0), (0, 96, Int.ofNat 0)])] (by dsimp only [cq_L_358, al_L_358])
set_option maxRecDepth 100000 in
theorem ah_L_359 : rf_ALT cq_L_359 := rf_alt_inf [(135, [], [(0, 114, Int.ofNat 0), (0, 114, Int.ofNat 0), (0, 123, Int.ofNat 0), (0, 117, Int.ofNat 0), (0, 96, Int.ofNat 0)]), (135, [], [(0, 112, Int.ofNat 0), (0, 112, Int.ofNat 0), (0, 124, Int.ofNat 0), (0, 119, Int.ofNat 0), (0, 96, Int.ofNat 0)]), (135, [], [(0, 112, Int.ofNat 0), (0, 112, Int.ofNat 0), (0, 121, Int.ofNat 0), (0, 120, Int.ofNat 0), (0, 97, Int.ofNat 0)]), (146, [], [(0, 121, Int.ofNat 0), (0, 116, Int.ofNat 0), (0, 122, Int.ofNat 0), (0, 113, Int.ofNat 0)]), (151, [], [(0, 123, Int.ofNat 0), (0, 119, Int.ofNat 0), (0, 123, Int.ofNat 0), (0, 123, Int.ofNat 0)])] (by dsimp only [cq_L_359, al_L_359])
set_option maxRecDepth 100000 in
theorem ah_L_360 : rf_ALT cq_L_360 := rf_alt_inf [(135, [], [(0, 114, Int.ofNat 0), (0, 114, Int.ofNat 0), (0, 119, Int.ofNat 0), (0, 0, Int.negSucc 0), (0, 96, Int.ofNat 0)])] (by dsimp only [cq_L_360, al_L_360])
set_option maxRecDepth 100000 in
theorem ah_L_361 : rf_ALT cq_L_361 := rf_alt_inf [(135, [], [(0, 112, Int.ofNat 0), (0, 112, Int.ofNat 0), (0, 122, Int.ofNat 0), (0, 121, Int.ofNat 0), (0, 96, Int.ofNat 0)])] (by dsimp only [cq_L_361, al_L_361])
set_option maxRecDepth 100000 in
theorem ah_L_362 : rf_ALT cq_L_362 := rf_alt_inf [(135, [], [(0, 114, Int.ofNat 0), (0, 114, Int.ofNat 0), (0, 122, Int.ofNat 0), (0, 119, Int.ofNat 0), (0, 96, Int.ofNat 0)])] (by dsimp only [cq_L_362, al_L_362])
set_option maxRecDepth 100000 in
theorem ah_L_363 : rf_ALT cq_L_363 := rf_alt_inf [(135, [], [(0, 114, Int.ofNat 0), (0, 114, Int.ofNat 0), (0, 122, Int.ofNat 0), (0, 119, Int.ofNat 0), (0, 96, Int.ofNat 0)])] (by dsimp only [cq_L_363, al_L_363])
set_option maxRecDepth 100000 in
theorem ah_L_364 : rf_ALT cq_L_364 := rf_alt_inf [(135, [], [(0, 114, Int.ofNat 0), (0, 114, Int.ofNat 0), (0, 122, Int.ofNat 0), (0, 119, Int.ofNat 0), (0, 96, Int.ofNat 0)]), (135, [], [(0, 112, Int.ofNat 0), (0, 112, Int.ofNat 0), (0, 123, Int.ofNat 0), (0, 121, Int.ofNat 0), (0, 96, Int.ofNat 0)])] (by dsimp only [cq_L_364, al_L_364])
set_option maxRecDepth 100000 in
theorem ah_L_365 : rf_ALT cq_L_365 := rf_alt_inf [(135, [], [(0, 114, Int.ofNat 0), (0, 114, Int.ofNat 0), (0, 122, Int.ofNat 0), (0, 119, Int.ofNat 0), (0, 96, Int.ofNat 0)])] (by dsimp only [cq_L_365, al_L_365])
set_option maxRecDepth 100000 in
theorem ah_L_366 : rf_ALT cq_L_366 := rf_alt_inf [(135, [], [(0, 114, Int.ofNat 0), (0, 114, Int.ofNat 0), (0, 122, Int.ofNat 0), (0, 119, Int.ofNat 0), (0, 96, Int.ofNat 0)])] (by dsimp only [cq_L_366, al_L_366])
set_option maxRecDepth 100000 in
theorem ah_L_367 : rf_ALT cq_L_367 := rf_alt_inf [(135, [], [(0, 114, Int.ofNat 0), (0, 114, Int.ofNat 0), (0, 122, Int.ofNat 0), (0, 119, Int.ofNat 0), (0, 96, Int.ofNat 0)]), (135, [], [(0, 112, Int.ofNat 0), (0, 112, Int.ofNat 0), (0, 123, Int.ofNat 0), (0, 121, Int.ofNat 0), (0, 96, Int.ofNat 0)]), (146, [], [(0, 117, Int.ofNat 0), (0, 113, Int.ofNat 0), (0, 118, Int.ofNat 0), (0, 116, Int.ofNat 0)]), (151, [], [(0, 122, Int.ofNat 0), (0, 123, Int.ofNat 0), (0, 123, Int.ofNat 0), (0, 119, Int.ofNat 0)])] (by dsimp only [cq_L_367, al_L_367])
set_option maxRecDepth 100000 in
theorem ah_L_368 : rf_ALT cq_L_368 := rf_alt_inf [(135, [], [(0, 114, Int.ofNat 0), (0, 114, Int.ofNat 0), (0, 124, Int.ofNat 0), (0, 119, Int.ofNat 0), (0, 96, Int.ofNat 0)]), (135, [], [(0, 112, Int.ofNat 0), (0, 112, Int.ofNat 0), (0, 125, Int.ofNat 0), (0, 121, Int.ofNat 0), (0, 96, Int.ofNat 0)]), (135, [], [(0, 112, Int.ofNat 0), (0, 112, Int.ofNat 0), (0, 122, Int.ofNat 0), (0, 117, Int.ofNat 0), (0, 97, Int.ofNat 0)]), (146, [], [(0, 122, Int.ofNat 0), (0, 116, Int.ofNat 0), (0, 123, Int.ofNat 0), (0, 113, Int.ofNat 0)]), (146, [], [(0, 117, Int.ofNat 0), (0, 113, Int.ofNat 0), (0, 118, Int.ofNat 0), (0, 116, Int.ofNat 0)])] (by dsimp only [cq_L_368, al_L_368])
set_option maxRecDepth 100000 in
theorem ah_L_369 : rf_ALT cq_L_369 := rf_alt_inf [(135, [], [(0, 114, Int.ofNat 0), (0, 114, Int.ofNat 0), (0, 122, Int.ofNat 0), (0, 119, Int.ofNat 0), (0, 96, Int.ofNat 0)]), (135, [], [(0, 112, Int.ofNat 0), (0, 112, Int.ofNat 0), (0, 123, Int.ofNat 0), (0, 121, Int.ofNat 0), (0, 96, Int.ofNat 0)]), (146, [], [(0, 117, Int.ofNat 0), (0, 113, Int.ofNat 0), (0, 118, Int.ofNat 0), (0, 116, Int.ofNat 0)]), (151, [], [(0, 123, Int.ofNat 0), (0, 122, Int.ofNat 0), (0, 122, Int.ofNat 0), (0, 119, Int.ofNat 0)])] (by dsimp only [cq_L_369, al_L_369])
set_option maxRecDepth 100000 in
theorem ah_L_370 : rf_ALT cq_L_370 := rf_alt_inf [(135, [], [(0, 114, Int.ofNat 0), (0, 114, Int.ofNat 0), (0, 120, Int.ofNat 0), (0, 0, Int.negSucc 0), (0, 96, Int.ofNat 0)])] (by dsimp only [cq_L_370, al_L_370])
set_option maxRecDepth 100000 in
theorem ah_L_371 : rf_ALT cq_L_371 := rf_alt_inf [(135, [], [(0, 114, Int.ofNat 0), (0, 114, Int.ofNat 0), (0, 120, Int.ofNat 0), (0, 117, Int.ofNat 0), (0, 96, Int.ofNat 0)])] (by dsimp only [cq_L_371, al_L_371])
set_option maxRecDepth 100000 in
theorem ah_L_372 : rf_ALT cq_L_372 := rf_alt_inf [(135, [], [(0, 114, Int.ofNat 0), (0, 114, Int.ofNat 0), (0, 123, Int.ofNat 0), (0, 117, Int.ofNat 0), (0, 96, Int.ofNat 0)]), (135, [], [(0, 112, Int.ofNat 0), (0, 112, Int.ofNat 0), (0, 124, Int.ofNat 0), (0, 119, Int.ofNat 0), (0, 96, Int.ofNat 0)]), (135, [], [(0, 112, Int.ofNat 0), (0, 112, Int.ofNat 0), (0, 121, Int.ofNat 0), (0, 120, Int.ofNat 0), (0, 97, Int.ofNat 0)]), (146, [], [(0, 121, Int.ofNat 0), (0, 116, Int.ofNat 0), (0, 122, Int.ofNat 0), (0, 113, Int.ofNat 0)]), (151, [], [(0, 124, Int.ofNat 0), (0, 117, Int.ofNat 0), (0, 123, Int.ofNat 0), (0, 123, Int.ofNat 0)])] (by dsimp only [cq_L_372, al_L_372])
set_option maxRecDepth 100000 in
theorem ah_L_373 : rf_ALT cq_L_373 := rf_alt_inf [(135, [], [(0, 114, Int.ofNat 0), (0, 114, Int.ofNat 0), (0, 121, Int.ofNat 0), (0, 0, Int.negSucc 0), (0, 96, Int.ofNat 0)])] (by dsimp only [cq_L_373, al_L_373])
set_option maxRecDepth 100000 in
theorem ah_L_374 : rf_ALT cq_L_374 := rf_alt_inf [(135, [], [(0, 114, Int.ofNat 0), (0, 114, Int.ofNat 0), (0, 121, Int.ofNat 0), (0, 117, Int.ofNat 0), (0, 96, Int.ofNat 0)]), (135, [], [(0, 112, Int.ofNat 0), (0, 112, Int.ofNat 0), (0, 122, Int.ofNat 0), (0, 0, Int.negSucc 0), (0, 96, Int.ofNat 0)])] (by dsimp only [cq_L_374, al_L_374])
set_option maxRecDepth 100000 in
theorem ah_L_375 : rf_ALT cq_L_375 := rf_alt_inf [(135, [], [(0, 114, Int.ofNat 0), (0, 114, Int.ofNat 0), (0, 121, Int.ofNat 0), (0, 117, Int.ofNat 0), (0, 96, Int.ofNat 0)])] (by dsimp only [cq_L_375, al_L_375])
set_option maxRecDepth 100000 in
theorem ah_L_376 : rf_ALT cq_L_376 := rf_alt_inf [(135, [], [(0, 114, Int.ofNat 0), (0, 114, Int.ofNat 0), (0, 122, Int.ofNat 0), (0, 117, Int.ofNat 0), (0, 96, Int.ofNat 0)]), (135, [], [(0, 112, Int.ofNat 0), (0, 112, Int.ofNat 0), (0, 123, Int.ofNat 0), (0, 119, Int.ofNat 0), (0, 96, Int.ofNat 0)])] (by dsimp only [cq_L_376, al_L_376])
set_option maxRecDepth 100000 in
theorem ah_L_377 : rf_ALT cq_L_377 := rf_alt_inf [(135, [], [(0, 114, Int.ofNat 0), (0, 114, Int.ofNat 0), (0, 122, Int.ofNat 0), (0, 117, Int.ofNat 0), (0, 96, Int.ofNat 0)])] (by dsimp only [cq_L_377, al_L_377])
set_option maxRecDepth 100000 in
theorem ah_L_378 : rf_ALT cq_L_378 := rf_alt_inf [(135, [], [(0, 112, Int.ofNat 0), (0, 112, Int.ofNat 0), (0, 123, Int.ofNat 0), (0, 122, Int.ofNat 0), (0, 96, Int.ofNat 0)])] (by dsimp only [cq_L_378, al_L_378])
set_option maxRecDepth 100000 in
theorem ah_L_379 : rf_ALT cq_L_379 := rf_alt_inf [(135, [], [(0, 114, Int.ofNat 0), (0, 114, Int.ofNat 0), (0, 123, Int.ofNat 0), (0, 121, Int.ofNat 0), (0, 96, Int.ofNat 0)])] (by dsimp only [cq_L_379, al_L_379])
set_option maxRecDepth 100000 in
theorem ah_L_380 : rf_ALT cq_L_380 := rf_alt_inf [(135, [], [(0, 114, Int.ofNat 0), (0, 114, Int.ofNat 0), (0, 123, Int.ofNat 0), (0, 121, Int.ofNat 0), (0, 96, Int.ofNat 0)])] (by dsimp only [cq_L_380, al_L_380])
set_option maxRecDepth 100000 in
theorem ah_L_381 : rf_ALT cq_L_381 := rf_alt_inf [(135, [], [(0, 114, Int.ofNat 0), (0, 114, Int.ofNat 0), (0, 123, Int.ofNat 0), (0, 121, Int.ofNat 0), (0, 96, Int.ofNat 0)]), (135, [], [(0, 112, Int.ofNat 0), (0, 112, Int.ofNat 0), (0, 124, Int.ofNat 0), (0, 122, Int.ofNat 0), (0, 96, Int.ofNat 0)])] (by dsimp only [cq_L_381, al_L_381])
set_option maxRecDepth 100000 in
theorem ah_L_382 : rf_ALT cq_L_382 := rf_alt_inf [(135, [], [(0, 114, Int.ofNat 0), (0, 114, Int.ofNat 0), (0, 123, Int.ofNat 0), (0, 121, Int.ofNat 0), (0, 96, Int.ofNat 0)])] (by dsimp only [cq_L_382, al_L_382])
set_option maxRecDepth 100000 in
theorem ah_L_383 : rf_ALT cq_L_383 := rf_alt_inf [(135, [], [(0, 114, Int.ofNat 0), (0, 114, Int.ofNat 0), (0, 123, Int.ofNat 0), (0, 121, Int.ofNat 0), (0, 96, Int.ofNat 0)])] (by dsimp only [cq_L_383, al_L_383])
set_option maxRecDepth 100000 in
theorem ah_L_384 : rf_ALT cq_L_384 := rf_alt_inf [(135, [], [(0, 114, Int.ofNat 0), (0, 114, Int.ofNat 0), (0, 123, Int.ofNat 0), (0, 121, Int.ofNat 0), (0, 96, Int.ofNat 0)]), (135, [], [(0, 112, Int.ofNat 0), (0, 112, Int.ofNat 0), (0, 124, Int.ofNat 0), (0, 122, Int.ofNat 0), (0, 96, Int.ofNat 0)]), (147, [], [(0, 41, Int.ofNat 0), (0, 115, Int.ofNat 0), (0, 118, Int.ofNat 0), (0, 114, Int.ofNat 0)]), (147, [], [(0, 41, Int.ofNat 0), (0, 115, Int.ofNat 0), (0, 118, Int.ofNat 0), (0, 116, Int.ofNat 0)]), (147, [], [(0, 119, Int.ofNat 0), (0, 113, Int.ofNat 0), (0, 120, Int.ofNat 0), (0, 114, Int.ofNat 0)]), (147, [], [(0, 119, Int.ofNat 0), (0, 113, Int.ofNat 0), (0, 120, Int.ofNat 0), (0, 116, Int.ofNat 0)]), (147, [], [(0, 1, Int.ofNat 0), (0, 0, Int.ofNat 6), (0, 1, Int.negSucc 5), (0, 114, Int.ofNat 0)]), (151, [], [(0, 123, Int.ofNat 0), (0, 124, Int.ofNat 0), (0, 124, Int.ofNat 0), (0, 121, Int.ofNat 0)])] (by dsimp only [cq_L_384, al_L_384])
set_option maxRecDepth 100000 in
theorem ah_L_385 : rf_ALT cq_L_385 := rf_alt_inf [(135, [], [(0, 114, Int.ofNat 0), (0, 114, Int.ofNat 0), (0, 125, Int.ofNat 0), (0, 121, Int.ofNat 0), (0, 96, Int.ofNat 0)]), (135, [], [(0, 112, Int.ofNat 0), (0, 112, Int.ofNat 0), (0, 126, Int.ofNat 0), (0, 122, Int.ofNat 0), (0, 96, Int.ofNat 0)]), (135, [], [(0, 112, Int.ofNat 0), (0, 112, Int.ofNat 0), (0, 123, Int.ofNat 0), (0, 119, Int.ofNat 0), (0, 97, Int.ofNat 0)]), (146, [], [(0, 123, Int.ofNat 0), (0, 116, Int.ofNat 0), (0, 124, Int.ofNat 0), (0, 113, Int.ofNat 0)]), (147, [], [(0, 41, Int.ofNat 0), (0, 115, Int.ofNat 0), (0, 118, Int.ofNat 0), (0, 114, Int.ofNat 0)]), (147, [], [(0, 41, Int.ofNat 0), (0, 115, Int.ofNat 0), (0, 118, Int.ofNat 0), (0, 116, Int.ofNat 0)]), (147, [], [(0, 119, Int.ofNat 0), (0, 113, Int.ofNat 0), (0, 120, Int.ofNat 0), (0, 114, Int.ofNat 0)]), (147, [], [(0, 119, Int.ofNat 0), (0, 113, Int.ofNat 0), (0, 120, Int.ofNat 0), (0, 116, Int.ofNat 0)]), (147, [], [(0, 1, Int.ofNat 0), (0, 0, Int.ofNat 6), (0, 1, Int.negSucc 5), (0, 114, Int.ofNat 0)]), (152, [], [(0, 113, Int.ofNat 0), (0, 116, Int.ofNat 0), (0, 119, Int.ofNat 0), (0, 123, Int.ofNat 0)])] (by dsimp only [cq_L_385, al_L_385])
set_option maxRecDepth 100000 in
theorem ah_L_386 : rf_ALT cq_L_386 := rf_alt_inf [(135, [], [(0, 114, Int.ofNat 0), (0, 114, Int.ofNat 0), (0, 123, Int.ofNat 0), (0, 121, Int.ofNat 0), (0, 96, Int.ofNat 0)]), (135, [], [(0, 112, Int.ofNat 0), (0, 112, Int.ofNat 0), (0, 124, Int.ofNat 0), (0, 122, Int.ofNat 0), (0, 96, Int.ofNat 0)]), (147, [], [(0, 41, Int.ofNat 0), (0, 115, Int.ofNat 0), (0, 118, Int.ofNat 0), (0, 114, Int.ofNat 0)]), (147, [], [(0, 41, Int.ofNat 0), (0, 115, Int.ofNat 0), (0, 118, Int.ofNat 0), (0, 116, Int.ofNat 0)]), (147, [], [(0, 119, Int.ofNat 0), (0, 113, Int.ofNat 0), (0, 120, Int.ofNat 0), (0, 114, Int.ofNat 0)]), (147, [], [(0, 119, Int.ofNat 0), (0, 113, Int.ofNat 0), (0, 120, Int.ofNat 0), (0, 116, Int.ofNat 0)]), (147, [], [(0, 1, Int.ofNat 0), (0, 0, Int.ofNat 6), (0, 1, Int.negSucc 5), (0, 114, Int.ofNat 0)]), (151, [], [(0, 124, Int.ofNat 0), (0, 123, Int.ofNat 0), (0, 123, Int.ofNat 0), (0, 121, Int.ofNat 0)])] (by dsimp only [cq_L_386, al_L_386])
set_option maxRecDepth 100000 in
theorem ah_L_387 : rf_ALT cq_L_387 := rf_alt_inf [(135, [], [(0, 114, Int.ofNat 0), (0, 114, Int.ofNat 0), (0, 127, Int.ofNat 0), (0, 121, Int.ofNat 0), (0, 96, Int.ofNat 0)]), (135, [], [(0, 114, Int.ofNat 0), (0, 114, Int.ofNat 0), (0, 123, Int.ofNat 0), (0, 41, Int.ofNat 0), (0, 97, Int.ofNat 0)]), (135, [], [(0, 112, Int.ofNat 0), (0, 112, Int.ofNat 0), (0, 128, Int.ofNat 0), (0, 122, Int.ofNat 0), (0, 96, Int.ofNat 0)]), (135, [], [(0, 112, Int.ofNat 0), (0, 112, Int.ofNat 0), (0, 125, Int.ofNat 0), (0, 119, Int.ofNat 0), (0, 97, Int.ofNat 0)]), (146, [], [(0, 123, Int.ofNat 0), (0, 116, Int.ofNat 0), (0, 124, Int.ofNat 0), (0, 115, Int.ofNat 0)]), (147, [], [(0, 125, Int.ofNat 0), (0, 116, Int.ofNat 0), (0, 126, Int.ofNat 0), (0, 113, Int.ofNat 0)]), (147, [], [(0, 125, Int.ofNat 0), (0, 116, Int.ofNat 0), (0, 126, Int.ofNat 0), (0, 114, Int.ofNat 0)]), (147, [], [(0, 41, Int.ofNat 0), (0, 115, Int.ofNat 0), (0, 118, Int.ofNat 0), (0, 114, Int.ofNat 0)]), (147, [], [(0, 41, Int.ofNat 0), (0, 115, Int.ofNat 0), (0, 118, Int.ofNat 0), (0, 116, Int.ofNat 0)]), (147, [], [(0, 119, Int.ofNat 0), (0, 113, Int.ofNat 0), (0, 120, Int.ofNat 0), (0, 114, Int.ofNat 0)]), (147, [], [(0, 119, Int.ofNat 0), (0, 113, Int.ofNat 0), (0, 120, Int.ofNat 0), (0, 116, Int.ofNat 0)]), (147, [], [(0, 1, Int.ofNat 0), (0, 0, Int.ofNat 6), (0, 1, Int.negSucc 5), (0, 114, Int.ofNat 0)]), (152, [], [(0, 115, Int.ofNat 0), (0, 116, Int.ofNat 0), (0, 41, Int.ofNat 0), (0, 123, Int.ofNat 0)])] (by dsimp only [cq_L_387, al_L_387])
set_option maxRecDepth 100000 in
theorem ah_L_388 : rf_ALT cq_L_388 := rf_alt_inf [(135, [], [(0, 112, Int.ofNat 0), (0, 112, Int.ofNat 0), (0, 123, Int.ofNat 0), (0, 122, Int.ofNat 0), (0, 96, Int.ofNat 0)])] (by dsimp only [cq_L_388, al_L_388])
set_option maxRecDepth 100000 in
theorem ah_L_389 : rf_ALT cq_L_389 := rf_alt_inf [(135, [], [(0, 114, Int.ofNat 0), (0, 114, Int.ofNat 0), (0, 123, Int.ofNat 0), (0, 121, Int.ofNat 0), (0, 96, Int.ofNat 0)])] (by dsimp only [cq_L_389, al_L_389])
set_option maxRecDepth 100000 in
theorem ah_L_390 : rf_ALT cq_L_390 := rf_alt_inf [(135, [], [(0, 114, Int.ofNat 0), (0, 114, Int.ofNat 0), (0, 123, Int.ofNat 0), (0, 121, Int.ofNat 0), (0, 96, Int.ofNat 0)])] (by dsimp only [cq_L_390, al_L_390])
set_option maxRecDepth 100000 in
theorem ah_L_391 : rf_ALT cq_L_391 := rf_alt_inf [(135, [], [(0, 114, Int.ofNat 0), (0, 114, Int.ofNat 0), (0, 123, Int.ofNat 0), (0, 121, Int.ofNat 0), (0, 96, Int.ofNat 0)]), (135, [], [(0, 112, Int.ofNat 0), (0, 112, Int.ofNat 0), (0, 124, Int.ofNat 0), (0, 122, Int.ofNat 0), (0, 96, Int.ofNat 0)])] (by dsimp only [cq_L_391, al_L_391])
set_option maxRecDepth 100000 in
theorem ah_L_392 : rf_ALT cq_L_392 := rf_alt_inf [(135, [], [(0, 114, Int.ofNat 0), (0, 114, Int.ofNat 0), (0, 123, Int.ofNat 0), (0, 121, Int.ofNat 0), (0, 96, Int.ofNat 0)])] (by dsimp only [cq_L_392, al_L_392])
set_option maxRecDepth 100000 in
theorem ah_L_393 : rf_ALT cq_L_393 := rf_alt_inf [(135, [], [(0, 114, Int.ofNat 0), (0, 114, Int.ofNat 0), (0, 123, Int.ofNat 0), (0, 121, Int.ofNat 0), (0, 96, Int.ofNat 0)])] (by dsimp only [cq_L_393, al_L_393])
set_option maxRecDepth 100000 in
theorem ah_L_394 : rf_ALT cq_L_394 := rf_alt_inf [(135, [], [(0, 114, Int.ofNat 0), (0, 114, Int.ofNat 0), (0, 123, Int.ofNat 0), (0, 121, Int.ofNat 0), (0, 96, Int.ofNat 0)]), (135, [], [(0, 112, Int.ofNat 0), (0, 112, Int.ofNat 0), (0, 124, Int.ofNat 0), (0, 122, Int.ofNat 0), (0, 96, Int.ofNat 0)]), (146, [], [(0, 117, Int.ofNat 0), (0, 115, Int.ofNat 0), (0, 118, Int.ofNat 0), (0, 116, Int.ofNat 0)]), (147, [], [(0, 119, Int.ofNat 0), (0, 113, Int.ofNat 0), (0, 120, Int.ofNat 0), (0, 116, Int.ofNat 0)]), (151, [], [(0, 123, Int.ofNat 0), (0, 124, Int.ofNat 0), (0, 124, Int.ofNat 0), (0, 121, Int.ofNat 0)])] (by dsimp only [cq_L_394, al_L_394])
set_option maxRecDepth 100000 in
theorem ah_L_395 : rf_ALT cq_L_395 := rf_alt_inf [(135, [], [(0, 114, Int.ofNat 0), (0, 114, Int.ofNat 0), (0, 125, Int.ofNat 0), (0, 121, Int.ofNat 0), (0, 96, Int.ofNat 0)]), (135, [], [(0, 112, Int.ofNat 0), (0, 112, Int.ofNat 0), (0, 126, Int.ofNat 0), (0, 122, Int.ofNat 0), (0, 96, Int.ofNat 0)]), (135, [], [(0, 112, Int.ofNat 0), (0, 112, Int.ofNat 0), (0, 123, Int.ofNat 0), (0, 119, Int.ofNat 0), (0, 97, Int.ofNat 0)]), (146, [], [(0, 123, Int.ofNat 0), (0, 116, Int.ofNat 0), (0, 124, Int.ofNat 0), (0, 113, Int.ofNat 0)]), (146, [], [(0, 117, Int.ofNat 0), (0, 115, Int.ofNat 0), (0, 118, Int.ofNat 0), (0, 116, Int.ofNat 0)]), (147, [], [(0, 119, Int.ofNat 0), (0, 113, Int.ofNat 0), (0, 120, Int.ofNat 0), (0, 116, Int.ofNat 0)]), (152, [], [(0, 113, Int.ofNat 0), (0, 116, Int.ofNat 0), (0, 119, Int.ofNat 0), (0, 123, Int.ofNat 0)])] (by dsimp only [cq_L_395, al_L_395])
set_option maxRecDepth 100000 in
theorem ah_L_396 : rf_ALT cq_L_396 := rf_alt_inf [(135, [], [(0, 114, Int.ofNat 0), (0, 114, Int.ofNat 0), (0, 123, Int.ofNat 0), (0, 121, Int.ofNat 0), (0, 96, Int.ofNat 0)]), (135, [], [(0, 112, Int.ofNat 0), (0, 112, Int.ofNat 0), (0, 124, Int.ofNat 0), (0, 122, Int.ofNat 0), (0, 96, Int.ofNat 0)]), (146, [], [(0, 117, Int.ofNat 0), (0, 115, Int.ofNat 0), (0, 118, Int.ofNat 0), (0, 116, Int.ofNat 0)]), (147, [], [(0, 119, Int.ofNat 0), (0, 113, Int.ofNat 0), (0, 120, Int.ofNat 0), (0, 116, Int.ofNat 0)]), (151, [], [(0, 124, Int.ofNat 0), (0, 123, Int.ofNat 0), (0, 123, Int.ofNat 0), (0, 121, Int.ofNat 0)])] (by dsimp only [cq_L_396, al_L_396])
set_option maxRecDepth 100000 in
theorem ah_L_397 : rf_ALT cq_L_397 := rf_alt_inf [(135, [], [(0, 114, Int.ofNat 0), (0, 114, Int.ofNat 0), (0, 121, Int.ofNat 0), (0, 0, Int.negSucc 0), (0, 96, Int.ofNat 0)])] (by dsimp only [cq_L_397, al_L_397])
set_option maxRecDepth 100000 in
theorem ah_L_398 : rf_ALT cq_L_398 := rf_alt_inf [(135, [], [(0, 114, Int.ofNat 0), (0, 114, Int.ofNat 0), (0, 122, Int.ofNat 0), (0, 0, Int.negSucc 0), (0, 96, Int.ofNat 0)])] (by dsimp only [cq_L_398, al_L_398])
set_option maxRecDepth 100000 in
theorem ah_L_399 : rf_ALT cq_L_399 := rf_alt_inf [(135, [], [(0, 114, Int.ofNat 0), (0, 114, Int.ofNat 0), (0, 122, Int.ofNat 0), (0, 117, Int.ofNat 0), (0, 96, Int.ofNat 0)])] (by dsimp only [cq_L_399, al_L_399])
set_option maxRecDepth 100000 in
theorem ah_L_400 : rf_ALT cq_L_400 := rf_alt_inf [(135, [], [(0, 114, Int.ofNat 0), (0, 114, Int.ofNat 0), (0, 123, Int.ofNat 0), (0, 0, Int.negSucc 0), (0, 96, Int.ofNat 0)])] (by dsimp only [cq_L_400, al_L_400])
set_option maxRecDepth 100000 in
theorem ah_L_401 : rf_ALT cq_L_401 := rf_alt_inf [(135, [], [(0, 114, Int.ofNat 0), (0, 114, Int.ofNat 0), (0, 123, Int.ofNat 0), (0, 117, Int.ofNat 0), (0, 96, Int.ofNat 0)]), (135, [], [(0, 114, Int.ofNat 0), (0, 114, Int.ofNat 0), (0, 119, Int.ofNat 0), (0, 118, Int.ofNat 0), (0, 97, Int.ofNat 0)]), (135, [], [(0, 112, Int.ofNat 0), (0, 112, Int.ofNat 0), (0, 124, Int.ofNat 0), (0, 0, Int.negSucc 0), (0, 96, Int.ofNat 0)])] (by dsimp only [cq_L_401, al_L_401])
set_option maxRecDepth 100000 in
theorem ah_L_402 : rf_ALT cq_L_402 := rf_alt_inf [(135, [], [(0, 114, Int.ofNat 0), (0, 114, Int.ofNat 0), (0, 123, Int.ofNat 0), (0, 117, Int.ofNat 0), (0, 96, Int.ofNat 0)])] (by dsimp only [cq_L_402, al_L_402])
set_option maxRecDepth 100000 in
theorem ah_L_403 : rf_ALT cq_L_403 := rf_alt_inf [(135, [], [(0, 114, Int.ofNat 0), (0, 114, Int.ofNat 0), (0, 124, Int.ofNat 0), (0, 117, Int.ofNat 0), (0, 96, Int.ofNat 0)]), (135, [], [(0, 114, Int.ofNat 0), (0, 114, Int.ofNat 0), (0, 120, Int.ofNat 0), (0, 118, Int.ofNat 0), (0, 97, Int.ofNat 0)]), (135, [], [(0, 112, Int.ofNat 0), (0, 112, Int.ofNat 0), (0, 125, Int.ofNat 0), (0, 119, Int.ofNat 0), (0, 96, Int.ofNat 0)])] (by dsimp only [cq_L_403, al_L_403])
set_option maxRecDepth 100000 in
theorem ah_L_404 : rf_ALT cq_L_404 := rf_alt_inf [(135, [], [(0, 114, Int.ofNat 0), (0, 114, Int.ofNat 0), (0, 124, Int.ofNat 0), (0, 117, Int.ofNat 0), (0, 96, Int.ofNat 0)])] (by dsimp only [cq_L_404, al_L_404])
set_option maxRecDepth 100000 in
theorem ah_L_405 : rf_ALT cq_L_405 := rf_alt_inf [(135, [], [(0, 114, Int.ofNat 0), (0, 114, Int.ofNat 0), (0, 125, Int.ofNat 0), (0, 117, Int.ofNat 0), (0, 96, Int.ofNat 0)]), (135, [], [(0, 114, Int.ofNat 0), (0, 114, Int.ofNat 0), (0, 121, Int.ofNat 0), (0, 118, Int.ofNat 0), (0, 97, Int.ofNat 0)]), (135, [], [(0, 112, Int.ofNat 0), (0, 112, Int.ofNat 0), (0, 126, Int.ofNat 0), (0, 119, Int.ofNat 0), (0, 96, Int.ofNat 0)]), (135, [], [(0, 112, Int.ofNat 0), (0, 112, Int.ofNat 0), (0, 123, Int.ofNat 0), (0, 120, Int.ofNat 0), (0, 97, Int.ofNat 0)]), (146, [], [(0, 121, Int.ofNat 0), (0, 116, Int.ofNat 0), (0, 122, Int.ofNat 0), (0, 115, Int.ofNat 0)]), (147, [], [(0, 123, Int.ofNat 0), (0, 116, Int.ofNat 0), (0, 124, Int.ofNat 0), (0, 113, Int.ofNat 0)]), (151, [], [(0, 125, Int.ofNat 0), (0, 119, Int.ofNat 0), (0, 125, Int.ofNat 0), (0, 125, Int.ofNat 0)])] (by dsimp only [cq_L_405, al_L_405])
set_option maxRecDepth 100000 in
theorem ah_L_406 : rf_ALT cq_L_406 := rf_alt_inf [(135, [], [(0, 114, Int.ofNat 0), (0, 114, Int.ofNat 0), (0, 125, Int.ofNat 0), (0, 117, Int.ofNat 0), (0, 96, Int.ofNat 0)]), (135, [], [(0, 114, Int.ofNat 0), (0, 114, Int.ofNat 0), (0, 121, Int.ofNat 0), (0, 118, Int.ofNat 0), (0, 97, Int.ofNat 0)]), (135, [], [(0, 112, Int.ofNat 0), (0, 112, Int.ofNat 0), (0, 126, Int.ofNat 0), (0, 119, Int.ofNat 0), (0, 96, Int.ofNat 0)]), (135, [], [(0, 112, Int.ofNat 0), (0, 112, Int.ofNat 0), (0, 123, Int.ofNat 0), (0, 120, Int.ofNat 0), (0, 97, Int.ofNat 0)]), (146, [], [(0, 121, Int.ofNat 0), (0, 116, Int.ofNat 0), (0, 122, Int.ofNat 0), (0, 115, Int.ofNat 0)]), (147, [], [(0, 123, Int.ofNat 0), (0, 116, Int.ofNat 0), (0, 124, Int.ofNat 0), (0, 113, Int.ofNat 0)]), (151, [], [(0, 126, Int.ofNat 0), (0, 117, Int.ofNat 0), (0, 125, Int.ofNat 0), (0, 125, Int.ofNat 0)])] (by dsimp only [cq_L_406, al_L_406])
set_option maxRecDepth 100000 in
theorem ah_L_407 : rf_ALT cq_L_407 := rf_alt_inf [(135, [], [(0, 114, Int.ofNat 0), (0, 114, Int.ofNat 0), (0, 126, Int.ofNat 0), (0, 119, Int.ofNat 0), (0, 96, Int.ofNat 0)]), (135, [], [(0, 114, Int.ofNat 0), (0, 114, Int.ofNat 0), (0, 122, Int.ofNat 0), (0, 120, Int.ofNat 0), (0, 97, Int.ofNat 0)]), (135, [], [(0, 112, Int.ofNat 0), (0, 112, Int.ofNat 0), (0, 127, Int.ofNat 0), (0, 121, Int.ofNat 0), (0, 96, Int.ofNat 0)]), (135, [], [(0, 112, Int.ofNat 0), (0, 112, Int.ofNat 0), (0, 124, Int.ofNat 0), (0, 117, Int.ofNat 0), (0, 97, Int.ofNat 0)]), (146, [], [(0, 122, Int.ofNat 0), (0, 116, Int.ofNat 0), (0, 123, Int.ofNat 0), (0, 115, Int.ofNat 0)]), (147, [], [(0, 124, Int.ofNat 0), (0, 116, Int.ofNat 0), (0, 125, Int.ofNat 0), (0, 113, Int.ofNat 0)]), (146, [], [(0, 117, Int.ofNat 0), (0, 113, Int.ofNat 0), (0, 118, Int.ofNat 0), (0, 116, Int.ofNat 0)]), (152, [], [(0, 116, Int.ofNat 0), (0, 113, Int.ofNat 0), (0, 124, Int.ofNat 0), (0, 117, Int.ofNat 0)])] (by dsimp only [cq_L_407, al_L_407])
set_option maxRecDepth 100000 in
theorem ah_L_408 : rf_ALT cq_L_408 := rf_alt_inf [(135, [], [(0, 114, Int.ofNat 0), (0, 114, Int.ofNat 0), (0, 127, Int.ofNat 0), (0, 121, Int.ofNat 0), (0, 96, Int.ofNat 0)]), (135, [], [(0, 114, Int.ofNat 0), (0, 114, Int.ofNat 0), (0, 123, Int.ofNat 0), (0, 117, Int.ofNat 0), (0, 97, Int.ofNat 0)]), (135, [], [(0, 112, Int.ofNat 0), (0, 112, Int.ofNat 0), (0, 128, Int.ofNat 0), (0, 122, Int.ofNat 0), (0, 96, Int.ofNat 0)]), (135, [], [(0, 112, Int.ofNat 0), (0, 112, Int.ofNat 0), (0, 125, Int.ofNat 0), (0, 119, Int.ofNat 0), (0, 97, Int.ofNat 0)]), (146, [], [(0, 123, Int.ofNat 0), (0, 116, Int.ofNat 0), (0, 124, Int.ofNat 0), (0, 115, Int.ofNat 0)]), (147, [], [(0, 125, Int.ofNat 0), (0, 116, Int.ofNat 0), (0, 126, Int.ofNat 0), (0, 113, Int.ofNat 0)]), (146, [], [(0, 117, Int.ofNat 0), (0, 115, Int.ofNat 0), (0, 118, Int.ofNat 0), (0, 116, Int.ofNat 0)]), (147, [], [(0, 119, Int.ofNat 0), (0, 113, Int.ofNat 0), (0, 120, Int.ofNat 0), (0, 116, Int.ofNat 0)])] (by dsimp only [cq_L_408, al_L_408])
set_option maxRecDepth 100000 in
theorem ah_L_409 : rf_ALT cq_L_409 := rf_alt_inf [(135, [], [(0, 112, Int.ofNat 0), (0, 112, Int.ofNat 0), (0, 123, Int.ofNat 0), (0, 122, Int.ofNat 0), (0, 96, Int.ofNat 0)])] (by dsimp only [cq_L_409, al_L_409])
set_option maxRecDepth 100000 in
theorem ah_L_410 : rf_ALT cq_L_410 := rf_alt_inf [(135, [], [(0, 114, Int.ofNat 0), (0, 114, Int.ofNat 0), (0, 123, Int.ofNat 0), (0, 121, Int.ofNat 0), (0, 96, Int.ofNat 0)])] (by dsimp only [cq_L_410, al_L_410])
set_option maxRecDepth 100000 in
theorem ah_L_411 : rf_ALT cq_L_411 := rf_alt_inf [(135, [], [(0, 114, Int.ofNat 0), (0, 114, Int.ofNat 0), (0, 123, Int.ofNat 0), (0, 121, Int.ofNat 0), (0, 96, Int.ofNat 0)])] (by dsimp only [cq_L_411, al_L_411])
set_option maxRecDepth 100000 in
theorem ah_L_412 : rf_ALT cq_L_412 := rf_alt_inf [(135, [], [(0, 114, Int.ofNat 0), (0, 114, Int.ofNat 0), (0, 123, Int.ofNat 0), (0, 121, Int.ofNat 0), (0, 96, Int.ofNat 0)]), (135, [], [(0, 112, Int.ofNat 0), (0, 112, Int.ofNat 0), (0, 124, Int.ofNat 0), (0, 122, Int.ofNat 0), (0, 96, Int.ofNat 0)])] (by dsimp only [cq_L_412, al_L_412])
set_option maxRecDepth 100000 in
theorem ah_L_413 : rf_ALT cq_L_413 := rf_alt_inf [(135, [], [(0, 114, Int.ofNat 0), (0, 114, Int.ofNat 0), (0, 123, Int.ofNat 0), (0, 121, Int.ofNat 0), (0, 96, Int.ofNat 0)])] (by dsimp only [cq_L_413, al_L_413])
set_option maxRecDepth 100000 in
theorem ah_L_414 : rf_ALT cq_L_414 := rf_alt_inf [(135, [], [(0, 114, Int.ofNat 0), (0, 114, Int.ofNat 0), (0, 123, Int.ofNat 0), (0, 121, Int.ofNat 0), (0, 96, Int.ofNat 0)])] (by dsimp only [cq_L_414, al_L_414])
set_option maxRecDepth 100000 in
theorem ah_L_415 : rf_ALT cq_L_415 := rf_alt_inf [(135, [], [(0, 114, Int.ofNat 0), (0, 114, Int.ofNat 0), (0, 123, Int.ofNat 0), (0, 121, Int.ofNat 0), (0, 96, Int.ofNat 0)]), (135, [], [(0, 112, Int.ofNat 0), (0, 112, Int.ofNat 0), (0, 124, Int.ofNat 0), (0, 122, Int.ofNat 0), (0, 96, Int.ofNat 0)]), (147, [], [(0, 45, Int.ofNat 0), (0, 115, Int.ofNat 0), (0, 118, Int.ofNat 0), (0, 116, Int.ofNat 0)]), (147, [], [(0, 119, Int.ofNat 0), (0, 113, Int.ofNat 0), (0, 120, Int.ofNat 0), (0, 116, Int.ofNat 0)]), (151, [], [(0, 123, Int.ofNat 0), (0, 124, Int.ofNat 0), (0, 124, Int.ofNat 0), (0, 121, Int.ofNat 0)])] (by dsimp only [cq_L_415, al_L_415])
set_option maxRecDepth 100000 in
theorem ah_L_416 : rf_ALT cq_L_416 := rf_alt_inf [(135, [], [(0, 114, Int.ofNat 0), (0, 114, Int.ofNat 0), (0, 125, Int.ofNat 0), (0, 121, Int.ofNat 0), (0, 96, Int.ofNat 0)]), (135, [], [(0, 112, Int.ofNat 0), (0, 112, Int.ofNat 0), (0, 126, Int.ofNat 0), (0, 122, Int.ofNat 0), (0, 96, Int.ofNat 0)]), (135, [], [(0, 112, Int.ofNat 0), (0, 112, Int.ofNat 0), (0, 123, Int.ofNat 0), (0, 119, Int.ofNat 0), (0, 97, Int.ofNat 0)]), (146, [], [(0, 123, Int.ofNat 0), (0, 116, Int.ofNat 0), (0, 124, Int.ofNat 0), (0, 113, Int.ofNat 0)]), (147, [], [(0, 45, Int.ofNat 0), (0, 115, Int.ofNat 0), (0, 118, Int.ofNat 0), (0, 116, Int.ofNat 0)]), (147, [], [(0, 119, Int.ofNat 0), (0, 113, Int.ofNat 0), (0, 120, Int.ofNat 0), (0, 116, Int.ofNat 0)]), (152, [], [(0, 113, Int.ofNat 0), (0, 116, Int.ofNat 0), (0, 119, Int.ofNat 0), (0, 123, Int.ofNat 0)])] (by dsimp only [cq_L_416, al_L_416])
set_option maxRecDepth 100000 in
theorem ah_L_417 : rf_ALT cq_L_417 := rf_alt_inf [(135, [], [(0, 114, Int.ofNat 0), (0, 114, Int.ofNat 0), (0, 123, Int.ofNat 0), (0, 121, Int.ofNat 0), (0, 96, Int.ofNat 0)]), (135, [], [(0, 112, Int.ofNat 0), (0, 112, Int.ofNat 0), (0, 124, Int.ofNat 0), (0, 122, Int.ofNat 0), (0, 96, Int.ofNat 0)]), (147, [], [(0, 45, Int.ofNat 0), (0, 115, Int.ofNat 0), (0, 118, Int.ofNat 0), (0, 116, Int.ofNat 0)]), (147, [], [(0, 119, Int.ofNat 0), (0, 113, Int.ofNat 0), (0, 120, Int.ofNat 0), (0, 116, Int.ofNat 0)]), (151, [], [(0, 124, Int.ofNat 0), (0, 123, Int.ofNat 0), (0, 123, Int.ofNat 0), (0, 121, Int.ofNat 0)])] (by dsimp only [cq_L_417, al_L_417])
set_option maxRecDepth 100000 in
theorem ah_L_418 : rf_ALT cq_L_418 := rf_alt_inf [(135, [], [(0, 114, Int.ofNat 0), (0, 114, Int.ofNat 0), (0, 127, Int.ofNat 0), (0, 121, Int.ofNat 0), (0, 96, Int.ofNat 0)]), (135, [], [(0, 114, Int.ofNat 0), (0, 114, Int.ofNat 0), (0, 123, Int.ofNat 0), (0, 45, Int.ofNat 0), (0, 97, Int.ofNat 0)]), (135, [], [(0, 112, Int.ofNat 0), (0, 112, Int.ofNat 0), (0, 128, Int.ofNat 0), (0, 122, Int.ofNat 0), (0, 96, Int.ofNat 0)]), (135, [], [(0, 112, Int.ofNat 0), (0, 112, Int.ofNat 0), (0, 125, Int.ofNat 0), (0, 119, Int.ofNat 0), (0, 97, Int.ofNat 0)]), (146, [], [(0, 123, Int.ofNat 0), (0, 116, Int.ofNat 0), (0, 124, Int.ofNat 0), (0, 115, Int.ofNat 0)]), (147, [], [(0, 125, Int.ofNat 0), (0, 116, Int.ofNat 0), (0, 126, Int.ofNat 0), (0, 113, Int.ofNat 0)]), (147, [], [(0, 45, Int.ofNat 0), (0, 115, Int.ofNat 0), (0, 118, Int.ofNat 0), (0, 116, Int.ofNat 0)]), (147, [], [(0, 119, Int.ofNat 0), (0, 113, Int.ofNat 0), (0, 120, Int.ofNat 0), (0, 116, Int.ofNat 0)]), (152, [], [(0, 115, Int.ofNat 0), (0, 116, Int.ofNat 0), (0, 45, Int.ofNat 0), (0, 123, Int.ofNat 0)])] (by dsimp only [cq_L_418, al_L_418])
set_option maxRecDepth 100000 in
theorem ah_L_419 : rf_ALT cq_L_419 := rf_alt_inf [(135, [], [(0, 112, Int.ofNat 0), (0, 112, Int.ofNat 0), (0, 123, Int.ofNat 0), (0, 122, Int.ofNat 0), (0, 96, Int.ofNat 0)])] (by dsimp only [cq_L_419, al_L_419])
set_option maxRecDepth 100000 in
theorem ah_L_420 : rf_ALT cq_L_420 := rf_alt_inf [(135, [], [(0, 114, Int.ofNat 0), (0, 114, Int.ofNat 0), (0, 123, Int.ofNat 0), (0, 121, Int.ofNat 0), (0, 96, Int.ofNat 0)])] (by dsimp only [cq_L_420, al_L_420])
set_option maxRecDepth 100000 in
theorem ah_L_421 : rf_ALT cq_L_421 := rf_alt_inf [(135, [], [(0, 114, Int.ofNat 0), (0, 114, Int.ofNat 0), (0, 123, Int.ofNat 0), (0, 121, Int.ofNat 0), (0, 96, Int.ofNat 0)])] (by dsimp only [cq_L_421, al_L_421])
set_option maxRecDepth 100000 in
theorem ah_L_422 : rf_ALT cq_L_422 := rf_alt_inf [(135, [], [(0, 114, Int.ofNat 0), (0, 114, Int.ofNat 0), (0, 123, Int.ofNat 0), (0, 121, Int.ofNat 0), (0, 96, Int.ofNat 0)]), (135, [], [(0, 112, Int.ofNat 0), (0, 112, Int.ofNat 0), (0, 124, Int.ofNat 0), (0, 122, Int.ofNat 0), (0, 96, Int.ofNat 0)])] (by dsimp only [cq_L_422, al_L_422])
set_option maxRecDepth 100000 in
theorem ah_L_423 : rf_ALT cq_L_423 := rf_alt_inf [(135, [], [(0, 114, Int.ofNat 0), (0, 114, Int.ofNat 0), (0, 123, Int.ofNat 0), (0, 121, Int.ofNat 0), (0, 96, Int.ofNat 0)])] (by dsimp only [cq_L_423, al_L_423])
set_option maxRecDepth 100000 in
theorem ah_L_424 : rf_ALT cq_L_424 := rf_alt_inf [(135, [], [(0, 114, Int.ofNat 0), (0, 114, Int.ofNat 0), (0, 123, Int.ofNat 0), (0, 121, Int.ofNat 0), (0, 96, Int.ofNat 0)])] (by dsimp only [cq_L_424, al_L_424])
set_option maxRecDepth 100000 in
theorem ah_L_425 : rf_ALT cq_L_425 := rf_alt_inf [(135, [], [(0, 114, Int.ofNat 0), (0, 114, Int.ofNat 0), (0, 123, Int.ofNat 0), (0, 121, Int.ofNat 0), (0, 96, Int.ofNat 0)]), (135, [], [(0, 112, Int.ofNat 0), (0, 112, Int.ofNat 0), (0, 124, Int.ofNat 0), (0, 122, Int.ofNat 0), (0, 96, Int.ofNat 0)]), (147, [], [(0, 49, Int.ofNat 0), (0, 115, Int.ofNat 0), (0, 118, Int.ofNat 0), (0, 116, Int.ofNat 0)]), (147, [], [(0, 119, Int.ofNat 0), (0, 113, Int.ofNat 0), (0, 120, Int.ofNat 0), (0, 116, Int.ofNat 0)]), (151, [], [(0, 123, Int.ofNat 0), (0, 124, Int.ofNat 0), (0, 124, Int.ofNat 0), (0, 121, Int.ofNat 0)])] (by dsimp only [cq_L_425, al_L_425])
set_option maxRecDepth 100000 in
theorem ah_L_426 : rf_ALT cq_L_426 := rf_alt_inf [(135, [], [(0, 114, Int.ofNat 0), (0, 114, Int.ofNat 0), (0, 125, Int.ofNat 0), (0, 121, Int.ofNat 0), (0, 96, Int.ofNat 0)]), (135, [], [(0, 112, Int.ofNat 0), (0, 112, Int.ofNat 0), (0, 126, Int.ofNat 0), (0, 122, Int.ofNat 0), (0, 96, Int.ofNat 0)]), (135, [], [(0, 112, Int.ofNat 0), (0, 112, Int.ofNat 0), (0, 123, Int.ofNat 0), (0, 119, Int.ofNat 0), (0, 97, Int.ofNat 0)]), (146, [], [(0, 123, Int.ofNat 0), (0, 116, Int.ofNat 0), (0, 124, Int.ofNat 0), (0, 113, Int.ofNat 0)]), (147, [], [(0, 49, Int.ofNat 0), (0, 115, Int.ofNat 0), (0, 118, Int.ofNat 0), (0, 116, Int.ofNat 0)]), (147, [], [(0, 119, Int.ofNat 0), (0, 113, Int.ofNat 0), (0, 120, Int.ofNat 0), (0, 116, Int.ofNat 0)]), (152, [], [(0, 113, Int.ofNat 0), (0, 116, Int.ofNat 0), (0, 119, Int.ofNat 0), (0, 123, Int.ofNat 0)])] (by dsimp only [cq_L_426, al_L_426])
set_option maxRecDepth 100000 in
theorem ah_L_427 : rf_ALT cq_L_427 := rf_alt_inf [(135, [], [(0, 114, Int.ofNat 0), (0, 114, Int.ofNat 0), (0, 123, Int.ofNat 0), (0, 121, Int.ofNat 0), (0, 96, Int.ofNat 0)]), (135, [], [(0, 112, Int.ofNat 0), (0, 112, Int.ofNat 0), (0, 124, Int.ofNat 0), (0, 122, Int.ofNat 0), (0, 96, Int.ofNat 0)]), (147, [], [(0, 49, Int.ofNat 0), (0, 115, Int.ofNat 0), (0, 118, Int.ofNat 0), (0, 116, Int.ofNat 0)]), (147, [], [(0, 119, Int.ofNat 0), (0, 113, Int.ofNat 0), (0, 120, Int.ofNat 0), (0, 116, Int.ofNat 0)]), (151, [], [(0, 124, Int.ofNat 0), (0, 123, Int.ofNat 0), (0, 123, Int.ofNat 0), (0, 121, Int.ofNat 0)])] (by dsimp only [cq_L_427, al_L_427])
set_option maxRecDepth 100000 in
theorem ah_L_428 : rf_ALT cq_L_428 := rf_alt_inf [(135, [], [(0, 114, Int.ofNat 0), (0, 114, Int.ofNat 0), (0, 127, Int.ofNat 0), (0, 121, Int.ofNat 0), (0, 96, Int.ofNat 0)]), (135, [], [(0, 114, Int.ofNat 0), (0, 114, Int.ofNat 0), (0, 123, Int.ofNat 0), (0, 49, Int.ofNat 0), (0, 97, Int.ofNat 0)]), (135, [], [(0, 112, Int.ofNat 0), (0, 112, Int.ofNat 0), (0, 128, Int.ofNat 0), (0, 122, Int.ofNat 0), (0, 96, Int.ofNat 0)]), (135, [], [(0, 112, Int.ofNat 0), (0, 112, Int.ofNat 0), (0, 125, Int.ofNat 0), (0, 119, Int.ofNat 0), (0, 97, Int.ofNat 0)]), (146, [], [(0, 123, Int.ofNat 0), (0, 116, Int.ofNat 0), (0, 124, Int.ofNat 0), (0, 115, Int.ofNat 0)]), (147, [], [(0, 125, Int.ofNat 0), (0, 116, Int.ofNat 0), (0, 126, Int.ofNat 0), (0, 113, Int.ofNat 0)]), (147, [], [(0, 49, Int.ofNat 0), (0, 115, Int.ofNat 0), (0, 118, Int.ofNat 0), (0, 116, Int.ofNat 0)]), (147, [], [(0, 119, Int.ofNat 0), (0, 113, Int.ofNat 0), (0, 120, Int.ofNat 0), (0, 116, Int.ofNat 0)]), (152, [], [(0, 115, Int.ofNat 0), (0, 116, Int.ofNat 0), (0, 49, Int.ofNat 0), (0, 123, Int.ofNat 0)])] (by dsimp only [cq_L_428, al_L_428])
set_option maxRecDepth 100000 in
theorem ah_L_429 : rf_ALT cq_L_429 := rf_alt_inf [(135, [], [(0, 112, Int.ofNat 0), (0, 112, Int.ofNat 0), (0, 123, Int.ofNat 0), (0, 122, Int.ofNat 0), (0, 96, Int.ofNat 0)])] (by dsimp only [cq_L_429, al_L_429])
set_option maxRecDepth 100000 in
theorem ah_L_430 : rf_ALT cq_L_430 := rf_alt_inf [(135, [], [(0, 114, Int.ofNat 0), (0, 114, Int.ofNat 0), (0, 123, Int.ofNat 0), (0, 121, Int.ofNat 0), (0, 96, Int.ofNat 0)])] (by dsimp only [cq_L_430, al_L_430])
set_option maxRecDepth 100000 in
theorem ah_L_431 : rf_ALT cq_L_431 := rf_alt_inf [(135, [], [(0, 114, Int.ofNat 0), (0, 114, Int.ofNat 0), (0, 123, Int.ofNat 0), (0, 121, Int.ofNat 0), (0, 96, Int.ofNat 0)])] (by dsimp only [cq_L_431, al_L_431])
set_option maxRecDepth 100000 in
theorem ah_L_432 : rf_ALT cq_L_432 := rf_alt_inf [(135, [], [(0, 114, Int.ofNat 0), (0, 114, Int.ofNat 0), (0, 123, Int.ofNat 0), (0, 121, Int.ofNat 0), (0, 96, Int.ofNat 0)]), (135, [], [(0, 112, Int.ofNat 0), (0, 112, Int.ofNat 0), (0, 124, Int.ofNat 0), (0, 122, Int.ofNat 0), (0, 96, Int.ofNat 0)])] (by dsimp only [cq_L_432, al_L_432])
set_option maxRecDepth 100000 in
theorem ah_L_433 : rf_ALT cq_L_433 := rf_alt_inf [(135, [], [(0, 114, Int.ofNat 0), (0, 114, Int.ofNat 0), (0, 123, Int.ofNat 0), (0, 121, Int.ofNat 0), (0, 96, Int.ofNat 0)])] (by dsimp only [cq_L_433, al_L_433])
set_option maxRecDepth 100000 in
theorem ah_L_434 : rf_ALT cq_L_434 := rf_alt_inf [(135, [], [(0, 114, Int.ofNat 0), (0, 114, Int.ofNat 0), (0, 123, Int.ofNat 0), (0, 121, Int.ofNat 0), (0, 96, Int.ofNat 0)])] (by dsimp only [cq_L_434, al_L_434])
set_option maxRecDepth 100000 in
theorem ah_L_435 : rf_ALT cq_L_435 := rf_alt_inf [(135, [], [(0, 114, Int.ofNat 0), (0, 114, Int.ofNat 0), (0, 123, Int.ofNat 0), (0, 121, Int.ofNat 0), (0, 96, Int.ofNat 0)]), (135, [], [(0, 112, Int.ofNat 0), (0, 112, Int.ofNat 0), (0, 124, Int.ofNat 0), (0, 122, Int.ofNat 0), (0, 96, Int.ofNat 0)]), (147, [], [(0, 53, Int.ofNat 0), (0, 115, Int.ofNat 0), (0, 118, Int.ofNat 0), (0, 116, Int.ofNat 0)]), (147, [], [(0, 119, Int.ofNat 0), (0, 113, Int.ofNat 0), (0, 120, Int.ofNat 0), (0, 116, Int.ofNat 0)]), (151, [], [(0, 123, Int.ofNat 0), (0, 124, Int.ofNat 0), (0, 124, Int.ofNat 0), (0, 121, Int.ofNat 0)])] (by dsimp only [cq_L_435, al_L_435])
set_option maxRecDepth 100000 in
theorem ah_L_436 : rf_ALT cq_L_436 := rf_alt_inf [(135, [], [(0, 114, Int.ofNat 0), (0, 114, Int.ofNat 0), (0, 125, Int.ofNat 0), (0, 121, Int.ofNat 0), (0, 96, Int.ofNat 0)]), (135, [], [(0, 112, Int.ofNat 0), (0, 112, Int.ofNat 0), (0, 126, Int.ofNat 0), (0, 122, Int.ofNat 0), (0, 96, Int.ofNat 0)]), (135, [], [(0, 112, Int.ofNat 0), (0, 112, Int.ofNat 0), (0, 123, Int.ofNat 0), (0, 119, Int.ofNat 0), (0, 97, Int.ofNat 0)]), (146, [], [(0, 123, Int.ofNat 0), (0, 116, Int.ofNat 0), (0, 124, Int.ofNat 0), (0, 113, Int.ofNat 0)]), (147, [], [(0, 53, Int.ofNat 0), (0, 115, Int.ofNat 0), (0, 118, Int.ofNat 0), (0, 116, Int.ofNat 0)]), (147, [], [(0, 119, Int.ofNat 0), (0, 113, Int.ofNat 0), (0, 120, Int.ofNat 0), (0, 116, Int.ofNat 0)]), (152, [], [(0, 113, Int.ofNat 0), (0, 116, Int.ofNat 0), (0, 119, Int.ofNat 0), (0, 123, Int.ofNat 0)])] (by dsimp only [cq_L_436, al_L_436])
set_option maxRecDepth 100000 in
theorem ah_L_437 : rf_ALT cq_L_437 := rf_alt_inf [(135, [], [(0, 114, Int.ofNat 0), (0, 114, Int.ofNat 0), (0, 123, Int.ofNat 0), (0, 121, Int.ofNat 0), (0, 96, Int.ofNat 0)]), (135, [], [(0, 112, Int.ofNat 0), (0, 112, Int.ofNat 0), (0, 124, Int.ofNat 0), (0, 122, Int.ofNat 0), (0, 96, Int.ofNat 0)]), (147, [], [(0, 53, Int.ofNat 0), (0, 115, Int.ofNat 0), (0, 118, Int.ofNat 0), (0, 116, Int.ofNat 0)]), (147, [], [(0, 119, Int.ofNat 0), (0, 113, Int.ofNat 0), (0, 120, Int.ofNat 0), (0, 116, Int.ofNat 0)]), (151, [], [(0, 124, Int.ofNat 0), (0, 123, Int.ofNat 0), (0, 123, Int.ofNat 0), (0, 121, Int.ofNat 0)])] (by dsimp only [cq_L_437, al_L_437])
set_option maxRecDepth 100000 in
theorem ah_L_438 : rf_ALT cq_L_438 := rf_alt_inf [(135, [], [(0, 114, Int.ofNat 0), (0, 114, Int.ofNat 0), (0, 127, Int.ofNat 0), (0, 121, Int.ofNat 0), (0, 96, Int.ofNat 0)]), (135, [], [(0, 114, Int.ofNat 0), (0, 114, Int.ofNat 0), (0, 123, Int.ofNat 0), (0, 53, Int.ofNat 0), (0, 97, Int.ofNat 0)]), (135, [], [(0, 112, Int.ofNat 0), (0, 112, Int.ofNat 0), (0, 128, Int.ofNat 0), (0, 122, Int.ofNat 0), (0, 96, Int.ofNat 0)]), (135, [], [(0, 112, Int.ofNat 0), (0, 112, Int.ofNat 0), (0, 125, Int.ofNat 0), (0, 119, Int.ofNat 0), (0, 97, Int.ofNat 0)]), (146, [], [(0, 123, Int.ofNat 0), (0, 116, Int.ofNat 0), (0, 124, Int.ofNat 0), (0, 115, Int.ofNat 0)]), (147, [], [(0, 125, Int.ofNat 0), (0, 116, Int.ofNat 0), (0, 126, Int.ofNat 0), (0, 113, Int.ofNat 0)]), (147, [], [(0, 53, Int.ofNat 0), (0, 115, Int.ofNat 0), (0, 118, Int.ofNat 0), (0, 116, Int.ofNat 0)]), (147, [], [(0, 119, Int.ofNat 0), (0, 113, Int.ofNat 0), (0, 120, Int.ofNat 0), (0, 116, Int.ofNat 0)]), (152, [], [(0, 115, Int.ofNat 0), (0, 116, Int.ofNat 0), (0, 53, Int.ofNat 0), (0, 123, Int.ofNat 0)])] (by dsimp only [cq_L_438, al_L_438])
set_option maxRecDepth 100000 in
theorem ah_L_439 : rf_ALT cq_L_439 := rf_alt_inf [(135, [], [(0, 112, Int.ofNat 0), (0, 112, Int.ofNat 0), (0, 123, Int.ofNat 0), (0, 122, Int.ofNat 0), (0, 96, Int.ofNat 0)])] (by dsimp only [cq_L_439, al_L_439])
set_option maxRecDepth 100000 in
theorem ah_L_440 : rf_ALT cq_L_440 := rf_alt_inf [(135, [], [(0, 114, Int.ofNat 0), (0, 114, Int.ofNat 0), (0, 123, Int.ofNat 0), (0, 121, Int.ofNat 0), (0, 96, Int.ofNat 0)])] (by dsimp only [cq_L_440, al_L_440])
set_option maxRecDepth 100000 in
theorem ah_L_441 : rf_ALT cq_L_441 := rf_alt_inf [(135, [], [(0, 114, Int.ofNat 0), (0, 114, Int.ofNat 0), (0, 123, Int.ofNat 0), (0, 121, Int.ofNat 0), (0, 96, Int.ofNat 0)])] (by dsimp only [cq_L_441, al_L_441])
set_option maxRecDepth 100000 in
theorem ah_L_442 : rf_ALT cq_L_442 := rf_alt_inf [(135, [], [(0, 114, Int.ofNat 0), (0, 114, Int.ofNat 0), (0, 123, Int.ofNat 0), (0, 121, Int.ofNat 0), (0, 96, Int.ofNat 0)]), (135, [], [(0, 112, Int.ofNat 0), (0, 112, Int.ofNat 0), (0, 124, Int.ofNat 0), (0, 122, Int.ofNat 0), (0, 96, Int.ofNat 0)])] (by dsimp only [cq_L_442, al_L_442])
set_option maxRecDepth 100000 in
theorem ah_L_443 : rf_ALT cq_L_443 := rf_alt_inf [(135, [], [(0, 114, Int.ofNat 0), (0, 114, Int.ofNat 0), (0, 123, Int.ofNat 0), (0, 121, Int.ofNat 0), (0, 96, Int.ofNat 0)])] (by dsimp only [cq_L_443, al_L_443])
set_option maxRecDepth 100000 in
theorem ah_L_444 : rf_ALT cq_L_444 := rf_alt_inf [(135, [], [(0, 114, Int.ofNat 0), (0, 114, Int.ofNat 0), (0, 123, Int.ofNat 0), (0, 121, Int.ofNat 0), (0, 96, Int.ofNat 0)])] (by dsimp only [cq_L_444, al_L_444])
set_option maxRecDepth 100000 in
theorem ah_L_445 : rf_ALT cq_L_445 := rf_alt_inf [(135, [], [(0, 114, Int.ofNat 0), (0, 114, Int.ofNat 0), (0, 123, Int.ofNat 0), (0, 121, Int.ofNat 0), (0, 96, Int.ofNat 0)]), (135, [], [(0, 112, Int.ofNat 0), (0, 112, Int.ofNat 0), (0, 124, Int.ofNat 0), (0, 122, Int.ofNat 0), (0, 96, Int.ofNat 0)]), (147, [], [(0, 57, Int.ofNat 0), (0, 115, Int.ofNat 0), (0, 118, Int.ofNat 0), (0, 116, Int.ofNat 0)]), (147, [], [(0, 119, Int.ofNat 0), (0, 113, Int.ofNat 0), (0, 120, Int.ofNat 0), (0, 116, Int.ofNat 0)]), (151, [], [(0, 123, Int.ofNat 0), (0, 124, Int.ofNat 0), (0, 124, Int.ofNat 0), (0, 121, Int.ofNat 0)])] (by dsimp only [cq_L_445, al_L_445])
set_option maxRecDepth 100000 in
theorem ah_L_446 : rf_ALT cq_L_446 := rf_alt_inf [(135, [], [(0, 114, Int.ofNat 0), (0, 114, Int.ofNat 0), (0, 125, Int.ofNat 0), (0, 121, Int.ofNat 0), (0, 96, Int.ofNat 0)]), (135, [], [(0, 112, Int.ofNat 0), (0, 112, Int.ofNat 0), (0, 126, Int.ofNat 0), (0, 122, Int.ofNat 0), (0, 96, Int.ofNat 0)]), (135, [], [(0, 112, Int.ofNat 0), (0, 112, Int.ofNat 0), (0, 123, Int.ofNat 0), (0, 119, Int.ofNat 0), (0, 97, Int.ofNat 0)]), (146, [], [(0, 123, Int.ofNat 0), (0, 116, Int.ofNat 0), (0, 124, Int.ofNat 0), (0, 113, Int.ofNat 0)]), (147, [], [(0, 57, Int.ofNat 0), (0, 115, Int.ofNat 0), (0, 118, Int.ofNat 0), (0, 116, Int.ofNat 0)]), (147, [], [(0, 119, Int.ofNat 0), (0, 113, Int.ofNat 0), (0, 120, Int.ofNat 0), (0, 116, Int.ofNat 0)]), (152, [], [(0, 113, Int.ofNat 0), (0, 116, Int.ofNat 0), (0, 119, Int.ofNat 0), (0, 123, Int.ofNat 0)])] (by dsimp only [cq_L_446, al_L_446])
set_option maxRecDepth 100000 in
theorem ah_L_447 : rf_ALT cq_L_447 := rf_alt_inf [(135, [], [(0, 114, Int.ofNat 0), (0, 114, Int.ofNat 0), (0, 123, Int.ofNat 0), (0, 121, Int.ofNat 0), (0, 96, Int.ofNat 0)]), (135, [], [(0, 112, Int.ofNat 0), (0, 112, Int.ofNat 0), (0, 124, Int.ofNat 0), (0, 122, Int.ofNat 0), (0, 96, Int.ofNat 0)]), (147, [], [(0, 57, Int.ofNat 0), (0, 115, Int.ofNat 0), (0, 118, Int.ofNat 0), (0, 116, Int.ofNat 0)]), (147, [], [(0, 119, Int.ofNat 0), (0, 113, Int.ofNat 0), (0, 120, Int.ofNat 0), (0, 116, Int.ofNat 0)]), (151, [], [(0, 124, Int.ofNat 0), (0, 123, Int.ofNat 0), (0, 123, Int.ofNat 0), (0, 121, Int.ofNat 0)])] (by dsimp only [cq_L_447, al_L_447])
set_option maxRecDepth 100000 in
theorem ah_L_448 : rf_ALT cq_L_448 := rf_alt_inf [(135, [], [(0, 114, Int.ofNat 0), (0, 114, Int.ofNat 0), (0, 127, Int.ofNat 0), (0, 121, Int.ofNat 0), (0, 96, Int.ofNat 0)]), (135, [], [(0, 114, Int.ofNat 0), (0, 114, Int.ofNat 0), (0, 123, Int.ofNat 0), (0, 57, Int.ofNat 0), (0, 97, Int.ofNat 0)]), (135, [], [(0, 112, Int.ofNat 0), (0, 112, Int.ofNat 0), (0, 128, Int.ofNat 0), (0, 122, Int.ofNat 0), (0, 96, Int.ofNat 0)]), (135, [], [(0, 112, Int.ofNat 0), (0, 112, Int.ofNat 0), (0, 125, Int.ofNat 0), (0, 119, Int.ofNat 0), (0, 97, Int.ofNat 0)]), (146, [], [(0, 123, Int.ofNat 0), (0, 116, Int.ofNat 0), (0, 124, Int.ofNat 0), (0, 115, Int.ofNat 0)]), (147, [], [(0, 125, Int.ofNat 0), (0, 116, Int.ofNat 0), (0, 126, Int.ofNat 0), (0, 113, Int.ofNat 0)]), (147, [], [(0, 57, Int.ofNat 0), (0, 115, Int.ofNat 0), (0, 118, Int.ofNat 0), (0, 116, Int.ofNat 0)]), (147, [], [(0, 119, Int.ofNat 0), (0, 113, Int.ofNat 0), (0, 120, Int.ofNat 0), (0, 116, Int.ofNat 0)]), (152, [], [(0, 115, Int.ofNat 0), (0, 116, Int.ofNat 0), (0, 57, Int.ofNat 0), (0, 123, Int.ofNat 0)])] (by dsimp only [cq_L_448, al_L_448])
set_option maxRecDepth 100000 in
theorem ah_L_449 : rf_ALT cq_L_449 := rf_alt_inf [(135, [], [(0, 112, Int.ofNat 0), (0, 112, Int.ofNat 0), (0, 123, Int.ofNat 0), (0, 122, Int.ofNat 0), (0, 96, Int.ofNat 0)])] (by dsimp only [cq_L_449, al_L_449])
set_option maxRecDepth 100000 in
theorem ah_L_450 : rf_ALT cq_L_450 := rf_alt_inf [(135, [], [(0, 114, Int.ofNat 0), (0, 114, Int.ofNat 0), (0, 123, Int.ofNat 0), (0, 121, Int.ofNat 0), (0, 96, Int.ofNat 0)])] (by dsimp only [cq_L_450, al_L_450])
set_option maxRecDepth 100000 in
theorem ah_L_451 : rf_ALT cq_L_451 := rf_alt_inf [(135, [], [(0, 114, Int.ofNat 0), (0, 114, Int.ofNat 0), (0, 123, Int.ofNat 0), (0, 121, Int.ofNat 0), (0, 96, Int.ofNat 0)])] (by dsimp only [cq_L_451, al_L_451])
set_option maxRecDepth 100000 in
theorem ah_L_452 : rf_ALT cq_L_452 := rf_alt_inf [(135, [], [(0, 114, Int.ofNat 0), (0, 114, Int.ofNat 0), (0, 123, Int.ofNat 0), (0, 121, Int.ofNat 0), (0, 96, Int.ofNat 0)]), (135, [], [(0, 112, Int.ofNat 0), (0, 112, Int.ofNat 0), (0, 124, Int.ofNat 0), (0, 122, Int.ofNat 0), (0, 96, Int.ofNat 0)])] (by dsimp only [cq_L_452, al_L_452])
set_option maxRecDepth 100000 in
theorem ah_L_453 : rf_ALT cq_L_453 := rf_alt_inf [(135, [], [(0, 114, Int.ofNat 0), (0, 114, Int.ofNat 0), (0, 123, Int.ofNat 0), (0, 121, Int.ofNat 0), (0, 96, Int.ofNat 0)])] (by dsimp only [cq_L_453, al_L_453])
set_option maxRecDepth 100000 in
theorem ah_L_454 : rf_ALT cq_L_454 := rf_alt_inf [(135, [], [(0, 114, Int.ofNat 0), (0, 114, Int.ofNat 0), (0, 123, Int.ofNat 0), (0, 121, Int.ofNat 0), (0, 96, Int.ofNat 0)])] (by dsimp only [cq_L_454, al_L_454])
set_option maxRecDepth 100000 in
theorem ah_L_455 : rf_ALT cq_L_455 := rf_alt_inf [(135, [], [(0, 114, Int.ofNat 0), (0, 114, Int.ofNat 0), (0, 123, Int.ofNat 0), (0, 121, Int.ofNat 0), (0, 96, Int.ofNat 0)]), (135, [], [(0, 112, Int.ofNat 0), (0, 112, Int.ofNat 0), (0, 124, Int.ofNat 0), (0, 122, Int.ofNat 0), (0, 96, Int.ofNat 0)]), (147, [], [(0, 61, Int.ofNat 0), (0, 115, Int.ofNat 0), (0, 118, Int.ofNat 0), (0, 116, Int.ofNat 0)]), (147, [], [(0, 119, Int.ofNat 0), (0, 113, Int.ofNat 0), (0, 120, Int.ofNat 0), (0, 116, Int.ofNat 0)]), (151, [], [(0, 123, Int.ofNat 0), (0, 124, Int.ofNat 0), (0, 124, Int.ofNat 0), (0, 121, Int.ofNat 0)])] (by dsimp only [cq_L_455, al_L_455])
set_option maxRecDepth 100000 in
theorem ah_L_456 : rf_ALT cq_L_456 := rf_alt_inf [(135, [], [(0, 114, Int.ofNat 0), (0, 114, Int.ofNat 0), (0, 125, Int.ofNat 0), (0, 121, Int.ofNat 0), (0, 96, Int.ofNat 0)]), (135, [], [(0, 112, Int.ofNat 0), (0, 112, Int.ofNat 0), (0, 126, Int.ofNat 0), (0, 122, Int.ofNat 0), (0, 96, Int.ofNat 0)]), (135, [], [(0, 112, Int.ofNat 0), (0, 112, Int.ofNat 0), (0, 123, Int.ofNat 0), (0, 119, Int.ofNat 0), (0, 97, Int.ofNat 0)]), (146, [], [(0, 123, Int.ofNat 0), (0, 116, Int.ofNat 0), (0, 124, Int.ofNat 0), (0, 113, Int.ofNat 0)]), (147, [], [(0, 61, Int.ofNat 0), (0, 115, Int.ofNat 0), (0, 118, Int.ofNat 0), (0, 116, Int.ofNat 0)]), (147, [], [(0, 119, Int.ofNat 0), (0, 113, Int.ofNat 0), (0, 120, Int.ofNat 0), (0, 116, Int.ofNat 0)]), (152, [], [(0, 113, Int.ofNat 0), (0, 116, Int.ofNat 0), (0, 119, Int.ofNat 0), (0, 123, Int.ofNat 0)])] (by dsimp only [cq_L_456, al_L_456])
set_option maxRecDepth 100000 in
theorem ah_L_457 : rf_ALT cq_L_457 := rf_alt_inf [(135, [], [(0, 114, Int.ofNat 0), (0, 114, Int.ofNat 0), (0, 123, Int.ofNat 0), (0, 121, Int.ofNat 0), (0, 96, Int.ofNat 0)]), (135, [], [(0, 112, Int.ofNat 0), (0, 112, Int.ofNat 0), (0, 124, Int.ofNat 0), (0, 122, Int.ofNat 0), (0, 96, Int.ofNat 0)]), (147, [], [(0, 61, Int.ofNat 0), (0, 115, Int.ofNat 0), (0, 118, Int.ofNat 0), (0, 116, Int.ofNat 0)]), (147, [], [(0, 119, Int.ofNat 0), (0, 113, Int.ofNat 0), (0, 120, Int.ofNat 0), (0, 116, Int.ofNat 0)]), (151, [], [(0, 124, Int.ofNat 0), (0, 123, Int.ofNat 0), (0, 123, Int.ofNat 0), (0, 121, Int.ofNat 0)])] (by dsimp only [cq_L_457, al_L_457])
set_option maxRecDepth 100000 in
theorem ah_L_458 : rf_ALT cq_L_458 := rf_alt_inf [(135, [], [(0, 114, Int.ofNat 0), (0, 114, Int.ofNat 0), (0, 127, Int.ofNat 0), (0, 121, Int.ofNat 0), (0, 96, Int.ofNat 0)]), (135, [], [(0, 114, Int.ofNat 0), (0, 114, Int.ofNat 0), (0, 123, Int.ofNat 0), (0, 61, Int.ofNat 0), (0, 97, Int.ofNat 0)]), (135, [], [(0, 112, Int.ofNat 0), (0, 112, Int.ofNat 0), (0, 128, Int.ofNat 0), (0, 122, Int.ofNat 0), (0, 96, Int.ofNat 0)]), (135, [], [(0, 112, Int.ofNat 0), (0, 112, Int.ofNat 0), (0, 125, Int.ofNat 0), (0, 119, Int.ofNat 0), (0, 97, Int.ofNat 0)]), (146, [], [(0, 123, Int.ofNat 0), (0, 116, Int.ofNat 0), (0, 124, Int.ofNat 0), (0, 115, Int.ofNat 0)]), (147, [], [(0, 125, Int.ofNat 0), (0, 116, Int.ofNat 0), (0, 126, Int.ofNat 0), (0, 113, Int.ofNat 0)]), (147, [], [(0, 61, Int.ofNat 0), (0, 115, Int.ofNat 0), (0, 118, Int.ofNat 0), (0, 116, Int.ofNat 0)]), (147, [], [(0, 119, Int.ofNat 0), (0, 113, Int.ofNat 0), (0, 120, Int.ofNat 0), (0, 116, Int.ofNat 0)]), (152, [], [(0, 115, Int.ofNat 0), (0, 116, Int.ofNat 0), (0, 61, Int.ofNat 0), (0, 123, Int.ofNat 0)])] (by dsimp only [cq_L_458, al_L_458])
set_option maxRecDepth 100000 in
theorem ah_L_459 : rf_ALT cq_L_459 := rf_alt_inf [(135, [], [(0, 114, Int.ofNat 0), (0, 114, Int.ofNat 0), (0, 135, Int.ofNat 0), (0, 121, Int.ofNat 0), (0, 96, Int.ofNat 0)]), (135, [], [(0, 114, Int.ofNat 0), (0, 114, Int.ofNat 0), (0, 131, Int.ofNat 0), (0, 41, Int.ofNat 0), (0, 97, Int.ofNat 0)]), (135, [], [(0, 112, Int.ofNat 0), (0, 112, Int.ofNat 0), (0, 136, Int.ofNat 0), (0, 122, Int.ofNat 0), (0, 96, Int.ofNat 0)]), (135, [], [(0, 112, Int.ofNat 0), (0, 112, Int.ofNat 0), (0, 133, Int.ofNat 0), (0, 119, Int.ofNat 0), (0, 97, Int.ofNat 0)]), (147, [], [(0, 131, Int.ofNat 0), (0, 116, Int.ofNat 0), (0, 132, Int.ofNat 0), (0, 114, Int.ofNat 0)]), (147, [], [(0, 131, Int.ofNat 0), (0, 116, Int.ofNat 0), (0, 132, Int.ofNat 0), (0, 115, Int.ofNat 0)]), (147, [], [(0, 133, Int.ofNat 0), (0, 116, Int.ofNat 0), (0, 134, Int.ofNat 0), (0, 113, Int.ofNat 0)]), (147, [], [(0, 133, Int.ofNat 0), (0, 116, Int.ofNat 0), (0, 134, Int.ofNat 0), (0, 114, Int.ofNat 0)]), (147, [], [(0, 41, Int.ofNat 0), (0, 115, Int.ofNat 0), (0, 118, Int.ofNat 0), (0, 114, Int.ofNat 0)]), (147, [], [(0, 41, Int.ofNat 0), (0, 115, Int.ofNat 0), (0, 118, Int.ofNat 0), (0, 116, Int.ofNat 0)]), (147, [], [(0, 119, Int.ofNat 0), (0, 113, Int.ofNat 0), (0, 120, Int.ofNat 0), (0, 114, Int.ofNat 0)]), (147, [], [(0, 119, Int.ofNat 0), (0, 113, Int.ofNat 0), (0, 120, Int.ofNat 0), (0, 116, Int.ofNat 0)]), (147, [], [(0, 1, Int.ofNat 0), (0, 0, Int.ofNat 6), (0, 1, Int.negSucc 5), (0, 114, Int.ofNat 0)]), (194, [], [(0, 117, Int.ofNat 0), (0, 90, Int.ofNat 0), (0, 98, Int.ofNat 0), (0, 115, Int.ofNat 0), (0, 112, Int.ofNat 0), (0, 113, Int.ofNat 0), (0, 116, Int.ofNat 0), (0, 124, Int.ofNat 0), (0, 99, Int.ofNat 0), (0, 127, Int.ofNat 0), (0, 128, Int.ofNat 0), (0, 123, Int.ofNat 0), (0, 125, Int.ofNat 0), (0, 126, Int.ofNat 0), (0, 130, Int.ofNat 0), (0, 129, Int.ofNat 0), (0, 114, Int.ofNat 0), (0, 38, Int.ofNat 0), (0, 41, Int.ofNat 0), (0, 0, Int.ofNat 0)]), (196, [], [(0, 42, Int.ofNat 0), (0, 45, Int.ofNat 0), (0, 91, Int.ofNat 0), (0, 98, Int.ofNat 0), (0, 0, Int.ofNat 1), (0, 123, Int.ofNat 0), (0, 124, Int.ofNat 0), (0, 125, Int.ofNat 0), (0, 126, Int.ofNat 0), (0, 114, Int.ofNat 0), (0, 129, Int.ofNat 0), (0, 115, Int.ofNat 0), (0, 116, Int.ofNat 0), (0, 41, Int.ofNat 0)]), (196, [], [(0, 46, Int.ofNat 0), (0, 49, Int.ofNat 0), (0, 92, Int.ofNat 0), (0, 98, Int.ofNat 0), (0, 0, Int.ofNat 2), (0, 123, Int.ofNat 0), (0, 124, Int.ofNat 0), (0, 125, Int.ofNat 0), (0, 126, Int.ofNat 0), (0, 114, Int.ofNat 0), (0, 129, Int.ofNat 0), (0, 115, Int.ofNat 0), (0, 116, Int.ofNat 0), (0, 41, Int.ofNat 0)]), (196, [], [(0, 50, Int.ofNat 0), (0, 53, Int.ofNat 0), (0, 93, Int.ofNat 0), (0, 98, Int.ofNat 0), (0, 0, Int.ofNat 3), (0, 123, Int.ofNat 0), (0, 124, Int.ofNat 0), (0, 125, Int.ofNat 0), (0, 126, Int.ofNat 0), (0, 114, Int.ofNat 0), (0, 129, Int.ofNat 0), (0, 115, Int.ofNat 0), (0, 116, Int.ofNat 0), (0, 41, Int.ofNat 0)]), (196, [], [(0, 54, Int.ofNat 0), (0, 57, Int.ofNat 0), (0, 94, Int.ofNat 0), (0, 98, Int.ofNat 0), (0, 0, Int.ofNat 4), (0, 123, Int.ofNat 0), (0, 124, Int.ofNat 0), (0, 125, Int.ofNat 0), (0, 126, Int.ofNat 0), (0, 114, Int.ofNat 0), (0, 129, Int.ofNat 0), (0, 115, Int.ofNat 0), (0, 116, Int.ofNat 0), (0, 41, Int.ofNat 0)]), (196, [], [(0, 58, Int.ofNat 0), (0, 61, Int.ofNat 0), (0, 95, Int.ofNat 0), (0, 98, Int.ofNat 0), (0, 0, Int.ofNat 5), (0, 123, Int.ofNat 0), (0, 124, Int.ofNat 0), (0, 125, Int.ofNat 0), (0, 126, Int.ofNat 0), (0, 114, Int.ofNat 0), (0, 129, Int.ofNat 0), (0, 115, Int.ofNat 0), (0, 116, Int.ofNat 0), (0, 41, Int.ofNat 0)])] (by dsimp only [cq_L_459, al_L_459])
set_option maxRecDepth 100000 in
theorem ah_L_460 : rf_ALT cq_L_460 := rf_alt_inf [(135, [], [(0, 114, Int.ofNat 0), (0, 114, Int.ofNat 0), (0, 129, Int.ofNat 0), (0, 0, Int.negSucc 0), (0, 96, Int.ofNat 0)])] (by dsimp only [cq_L_460, al_L_460])
set_option maxRecDepth 100000 in
theorem ah_L_461 : rf_ALT cq_L_461 := rf_alt_inf [(135, [], [(0, 114, Int.ofNat 0), (0, 114, Int.ofNat 0), (0, 130, Int.ofNat 0), (0, 0, Int.negSucc 0), (0, 96, Int.ofNat 0)])] (by dsimp only [cq_L_461, al_L_461])
set_option maxRecDepth 100000 in
theorem ah_L_462 : rf_ALT cq_L_462 := rf_alt_inf [(135, [], [(0, 114, Int.ofNat 0), (0, 114, Int.ofNat 0), (0, 130, Int.ofNat 0), (0, 117, Int.ofNat 0), (0, 96, Int.ofNat 0)])] (by dsimp only [cq_L_462, al_L_462])
set_option maxRecDepth 100000 in
theorem ah_L_463 : rf_ALT cq_L_463 := rf_alt_inf [(135, [], [(0, 114, Int.ofNat 0), (0, 114, Int.ofNat 0), (0, 131, Int.ofNat 0), (0, 0, Int.negSucc 0), (0, 96, Int.ofNat 0)])] (by dsimp only [cq_L_463, al_L_463])
set_option maxRecDepth 100000 in
theorem ah_L_464 : rf_ALT cq_L_464 := rf_alt_inf [(135, [], [(0, 114, Int.ofNat 0), (0, 114, Int.ofNat 0), (0, 131, Int.ofNat 0), (0, 117, Int.ofNat 0), (0, 96, Int.ofNat 0)]), (135, [], [(0, 114, Int.ofNat 0), (0, 114, Int.ofNat 0), (0, 127, Int.ofNat 0), (0, 118, Int.ofNat 0), (0, 97, Int.ofNat 0)]), (135, [], [(0, 112, Int.ofNat 0), (0, 112, Int.ofNat 0), (0, 132, Int.ofNat 0), (0, 0, Int.negSucc 0), (0, 96, Int.ofNat 0)])] (by dsimp only [cq_L_464, al_L_464])
set_option maxRecDepth 100000 in
theorem ah_L_465 : rf_ALT cq_L_465 := rf_alt_inf [(135, [], [(0, 114, Int.ofNat 0), (0, 114, Int.ofNat 0), (0, 131, Int.ofNat 0), (0, 117, Int.ofNat 0), (0, 96, Int.ofNat 0)])] (by dsimp only [cq_L_465, al_L_465])
set_option maxRecDepth 100000 in
theorem ah_L_466 : rf_ALT cq_L_466 := rf_alt_inf [(135, [], [(0, 114, Int.ofNat 0), (0, 114, Int.ofNat 0), (0, 132, Int.ofNat 0), (0, 117, Int.ofNat 0), (0, 96, Int.ofNat 0)]), (135, [], [(0, 114, Int.ofNat 0), (0, 114, Int.ofNat 0), (0, 128, Int.ofNat 0), (0, 118, Int.ofNat 0), (0, 97, Int.ofNat 0)]), (135, [], [(0, 112, Int.ofNat 0), (0, 112, Int.ofNat 0), (0, 133, Int.ofNat 0), (0, 119, Int.ofNat 0), (0, 96, Int.ofNat 0)])] (by dsimp only [cq_L_466, al_L_466])
set_option maxRecDepth 100000 in
theorem ah_L_467 : rf_ALT cq_L_467 := rf_alt_inf [(135, [], [(0, 114, Int.ofNat 0), (0, 114, Int.ofNat 0), (0, 132, Int.ofNat 0), (0, 117, Int.ofNat 0), (0, 96, Int.ofNat 0)])] (by dsimp only [cq_L_467, al_L_467])
set_option maxRecDepth 100000 in
theorem ah_L_468 : rf_ALT cq_L_468 := rf_alt_inf [(135, [], [(0, 114, Int.ofNat 0), (0, 114, Int.ofNat 0), (0, 133, Int.ofNat 0), (0, 117, Int.ofNat 0), (0, 96, Int.ofNat 0)]), (135, [], [(0, 114, Int.ofNat 0), (0, 114, Int.ofNat 0), (0, 129, Int.ofNat 0), (0, 118, Int.ofNat 0), (0, 97, Int.ofNat 0)]), (135, [], [(0, 112, Int.ofNat 0), (0, 112, Int.ofNat 0), (0, 134, Int.ofNat 0), (0, 119, Int.ofNat 0), (0, 96, Int.ofNat 0)]), (135, [], [(0, 112, Int.ofNat 0), (0, 112, Int.ofNat 0), (0, 131, Int.ofNat 0), (0, 120, Int.ofNat 0), (0, 97, Int.ofNat 0)]), (147, [], [(0, 129, Int.ofNat 0), (0, 116, Int.ofNat 0), (0, 130, Int.ofNat 0), (0, 115, Int.ofNat 0)]), (147, [], [(0, 131, Int.ofNat 0), (0, 116, Int.ofNat 0), (0, 132, Int.ofNat 0), (0, 113, Int.ofNat 0)]), (151, [], [(0, 133, Int.ofNat 0), (0, 119, Int.ofNat 0), (0, 133, Int.ofNat 0), (0, 133, Int.ofNat 0)])] (by dsimp only [cq_L_468, al_L_468])
set_option maxRecDepth 100000 in
theorem ah_L_469 : rf_ALT cq_L_469 := rf_alt_inf [(135, [], [(0, 114, Int.ofNat 0), (0, 114, Int.ofNat 0), (0, 133, Int.ofNat 0), (0, 117, Int.ofNat 0), (0, 96, Int.ofNat 0)]), (135, [], [(0, 114, Int.ofNat 0), (0, 114, Int.ofNat 0), (0, 129, Int.ofNat 0), (0, 118, Int.ofNat 0), (0, 97, Int.ofNat 0)]), (135, [], [(0, 112, Int.ofNat 0), (0, 112, Int.ofNat 0), (0, 134, Int.ofNat 0), (0, 119, Int.ofNat 0), (0, 96, Int.ofNat 0)]), (135, [], [(0, 112, Int.ofNat 0), (0, 112, Int.ofNat 0), (0, 131, Int.ofNat 0), (0, 120, Int.ofNat 0), (0, 97, Int.ofNat 0)]), (147, [], [(0, 129, Int.ofNat 0), (0, 116, Int.ofNat 0), (0, 130, Int.ofNat 0), (0, 115, Int.ofNat 0)]), (147, [], [(0, 131, Int.ofNat 0), (0, 116, Int.ofNat 0), (0, 132, Int.ofNat 0), (0, 113, Int.ofNat 0)]), (151, [], [(0, 134, Int.ofNat 0), (0, 117, Int.ofNat 0), (0, 133, Int.ofNat 0), (0, 133, Int.ofNat 0)])] (by dsimp only [cq_L_469, al_L_469])
set_option maxRecDepth 100000 in
theorem ah_L_470 : rf_ALT cq_L_470 := rf_alt_inf [(135, [], [(0, 114, Int.ofNat 0), (0, 114, Int.ofNat 0), (0, 134, Int.ofNat 0), (0, 119, Int.ofNat 0), (0, 96, Int.ofNat 0)]), (135, [], [(0, 114, Int.ofNat 0), (0, 114, Int.ofNat 0), (0, 130, Int.ofNat 0), (0, 120, Int.ofNat 0), (0, 97, Int.ofNat 0)]), (135, [], [(0, 112, Int.ofNat 0), (0, 112, Int.ofNat 0), (0, 135, Int.ofNat 0), (0, 121, Int.ofNat 0), (0, 96, Int.ofNat 0)]), (135, [], [(0, 112, Int.ofNat 0), (0, 112, Int.ofNat 0), (0, 132, Int.ofNat 0), (0, 117, Int.ofNat 0), (0, 97, Int.ofNat 0)]), (147, [], [(0, 130, Int.ofNat 0), (0, 116, Int.ofNat 0), (0, 131, Int.ofNat 0), (0, 115, Int.ofNat 0)]), (147, [], [(0, 132, Int.ofNat 0), (0, 116, Int.ofNat 0), (0, 133, Int.ofNat 0), (0, 113, Int.ofNat 0)]), (146, [], [(0, 117, Int.ofNat 0), (0, 113, Int.ofNat 0), (0, 118, Int.ofNat 0), (0, 116, Int.ofNat 0)]), (152, [], [(0, 116, Int.ofNat 0), (0, 113, Int.ofNat 0), (0, 132, Int.ofNat 0), (0, 117, Int.ofNat 0)])] (by dsimp only [cq_L_470, al_L_470])
set_option maxRecDepth 100000 in
theorem ah_L_471 : rf_ALT cq_L_471 := rf_alt_inf [(135, [], [(0, 114, Int.ofNat 0), (0, 114, Int.ofNat 0), (0, 135, Int.ofNat 0), (0, 121, Int.ofNat 0), (0, 96, Int.ofNat 0)]), (135, [], [(0, 114, Int.ofNat 0), (0, 114, Int.ofNat 0), (0, 131, Int.ofNat 0), (0, 117, Int.ofNat 0), (0, 97, Int.ofNat 0)]), (135, [], [(0, 112, Int.ofNat 0), (0, 112, Int.ofNat 0), (0, 136, Int.ofNat 0), (0, 122, Int.ofNat 0), (0, 96, Int.ofNat 0)]), (135, [], [(0, 112, Int.ofNat 0), (0, 112, Int.ofNat 0), (0, 133, Int.ofNat 0), (0, 119, Int.ofNat 0), (0, 97, Int.ofNat 0)]), (147, [], [(0, 131, Int.ofNat 0), (0, 116, Int.ofNat 0), (0, 132, Int.ofNat 0), (0, 115, Int.ofNat 0)]), (147, [], [(0, 133, Int.ofNat 0), (0, 116, Int.ofNat 0), (0, 134, Int.ofNat 0), (0, 113, Int.ofNat 0)]), (146, [], [(0, 117, Int.ofNat 0), (0, 115, Int.ofNat 0), (0, 118, Int.ofNat 0), (0, 116, Int.ofNat 0)]), (147, [], [(0, 119, Int.ofNat 0), (0, 113, Int.ofNat 0), (0, 120, Int.ofNat 0), (0, 116, Int.ofNat 0)]), (152, [], [(0, 116, Int.ofNat 0), (0, 115, Int.ofNat 0), (0, 131, Int.ofNat 0), (0, 117, Int.ofNat 0)])] (by dsimp only [cq_L_471, al_L_471])
set_option maxRecDepth 100000 in
theorem ah_L_472 : rf_ALT cq_L_472 := rf_alt_inf [(135, [], [(0, 114, Int.ofNat 0), (0, 114, Int.ofNat 0), (0, 135, Int.ofNat 0), (0, 121, Int.ofNat 0), (0, 96, Int.ofNat 0)]), (135, [], [(0, 114, Int.ofNat 0), (0, 114, Int.ofNat 0), (0, 131, Int.ofNat 0), (0, 45, Int.ofNat 0), (0, 97, Int.ofNat 0)]), (135, [], [(0, 112, Int.ofNat 0), (0, 112, Int.ofNat 0), (0, 136, Int.ofNat 0), (0, 122, Int.ofNat 0), (0, 96, Int.ofNat 0)]), (135, [], [(0, 112, Int.ofNat 0), (0, 112, Int.ofNat 0), (0, 133, Int.ofNat 0), (0, 119, Int.ofNat 0), (0, 97, Int.ofNat 0)]), (147, [], [(0, 131, Int.ofNat 0), (0, 116, Int.ofNat 0), (0, 132, Int.ofNat 0), (0, 115, Int.ofNat 0)]), (147, [], [(0, 133, Int.ofNat 0), (0, 116, Int.ofNat 0), (0, 134, Int.ofNat 0), (0, 113, Int.ofNat 0)]), (147, [], [(0, 45, Int.ofNat 0), (0, 115, Int.ofNat 0), (0, 118, Int.ofNat 0), (0, 116, Int.ofNat 0)]), (147, [], [(0, 119, Int.ofNat 0), (0, 113, Int.ofNat 0), (0, 120, Int.ofNat 0), (0, 116, Int.ofNat 0)]), (195, [], [(0, 38, Int.ofNat 0), (0, 41, Int.ofNat 0), (0, 90, Int.ofNat 0), (0, 98, Int.ofNat 0), (0, 0, Int.ofNat 0), (0, 123, Int.ofNat 0), (0, 124, Int.ofNat 0), (0, 125, Int.ofNat 0), (0, 126, Int.ofNat 0), (0, 114, Int.ofNat 0), (0, 129, Int.ofNat 0), (0, 115, Int.ofNat 0), (0, 116, Int.ofNat 0), (0, 45, Int.ofNat 0)]), (194, [], [(0, 117, Int.ofNat 0), (0, 91, Int.ofNat 0), (0, 98, Int.ofNat 0), (0, 115, Int.ofNat 0), (0, 112, Int.ofNat 0), (0, 113, Int.ofNat 0), (0, 116, Int.ofNat 0), (0, 124, Int.ofNat 0), (0, 99, Int.ofNat 0), (0, 127, Int.ofNat 0), (0, 128, Int.ofNat 0), (0, 123, Int.ofNat 0), (0, 125, Int.ofNat 0), (0, 126, Int.ofNat 0), (0, 130, Int.ofNat 0), (0, 129, Int.ofNat 0), (0, 114, Int.ofNat 0), (0, 42, Int.ofNat 0), (0, 45, Int.ofNat 0), (0, 0, Int.ofNat 1)]), (196, [], [(0, 46, Int.ofNat 0), (0, 49, Int.ofNat 0), (0, 92, Int.ofNat 0), (0, 98, Int.ofNat 0), (0, 0, Int.ofNat 2), (0, 123, Int.ofNat 0), (0, 124, Int.ofNat 0), (0, 125, Int.ofNat 0), (0, 126, Int.ofNat 0), (0, 114, Int.ofNat 0), (0, 129, Int.ofNat 0), (0, 115, Int.ofNat 0), (0, 116, Int.ofNat 0), (0, 45, Int.ofNat 0)]), (196, [], [(0, 50, Int.ofNat 0), (0, 53, Int.ofNat 0), (0, 93, Int.ofNat 0), (0, 98, Int.ofNat 0), (0, 0, Int.ofNat 3), (0, 123, Int.ofNat 0), (0, 124, Int.ofNat 0), (0, 125, Int.ofNat 0), (0, 126, Int.ofNat 0), (0, 114, Int.ofNat 0), (0, 129, Int.ofNat 0), (0, 115, Int.ofNat 0), (0, 116, Int.ofNat 0), (0, 45, Int.ofNat 0)]), (196, [], [(0, 54, Int.ofNat 0), (0, 57, Int.ofNat 0), (0, 94, Int.ofNat 0), (0, 98, Int.ofNat 0), (0, 0, Int.ofNat 4), (0, 123, Int.ofNat 0), (0, 124, Int.ofNat 0), (0, 125, Int.ofNat 0), (0, 126, Int.ofNat 0), (0, 114, Int.ofNat 0), (0, 129, Int.ofNat 0), (0, 115, Int.ofNat 0), (0, 116, Int.ofNat 0), (0, 45, Int.ofNat 0)]), (196, [], [(0, 58, Int.ofNat 0), (0, 61, Int.ofNat 0), (0, 95, Int.ofNat 0), (0, 98, Int.ofNat 0), (0, 0, Int.ofNat 5), (0, 123, Int.ofNat 0), (0, 124, Int.ofNat 0), (0, 125, Int.ofNat 0), (0, 126, Int.ofNat 0), (0, 114, Int.ofNat 0), (0, 129, Int.ofNat 0), (0, 115, Int.ofNat 0), (0, 116, Int.ofNat 0), (0, 45, Int.ofNat 0)])] (by dsimp only [cq_L_472, al_L_472])
set_option maxRecDepth 100000 in
theorem ah_L_473 : rf_ALT cq_L_473 := rf_alt_inf [(135, [], [(0, 114, Int.ofNat 0), (0, 114, Int.ofNat 0), (0, 135, Int.ofNat 0), (0, 121, Int.ofNat 0), (0, 96, Int.ofNat 0)]), (135, [], [(0, 114, Int.ofNat 0), (0, 114, Int.ofNat 0), (0, 131, Int.ofNat 0), (0, 49, Int.ofNat 0), (0, 97, Int.ofNat 0)]), (135, [], [(0, 112, Int.ofNat 0), (0, 112, Int.ofNat 0), (0, 136, Int.ofNat 0), (0, 122, Int.ofNat 0), (0, 96, Int.ofNat 0)]), (135, [], [(0, 112, Int.ofNat 0), (0, 112, Int.ofNat 0), (0, 133, Int.ofNat 0), (0, 119, Int.ofNat 0), (0, 97, Int.ofNat 0)]), (147, [], [(0, 131, Int.ofNat 0), (0, 116, Int.ofNat 0), (0, 132, Int.ofNat 0), (0, 115, Int.ofNat 0)]), (147, [], [(0, 133, Int.ofNat 0), (0, 116, Int.ofNat 0), (0, 134, Int.ofNat 0), (0, 113, Int.ofNat 0)]), (147, [], [(0, 49, Int.ofNat 0), (0, 115, Int.ofNat 0), (0, 118, Int.ofNat 0), (0, 116, Int.ofNat 0)]), (147, [], [(0, 119, Int.ofNat 0), (0, 113, Int.ofNat 0), (0, 120, Int.ofNat 0), (0, 116, Int.ofNat 0)]), (195, [], [(0, 38, Int.ofNat 0), (0, 41, Int.ofNat 0), (0, 90, Int.ofNat 0), (0, 98, Int.ofNat 0), (0, 0, Int.ofNat 0), (0, 123, Int.ofNat 0), (0, 124, Int.ofNat 0), (0, 125, Int.ofNat 0), (0, 126, Int.ofNat 0), (0, 114, Int.ofNat 0), (0, 129, Int.ofNat 0), (0, 115, Int.ofNat 0), (0, 116, Int.ofNat 0), (0, 49, Int.ofNat 0)]), (195, [], [(0, 42, Int.ofNat 0), (0, 45, Int.ofNat 0), (0, 91, Int.ofNat 0), (0, 98, Int.ofNat 0), (0, 0, Int.ofNat 1), (0, 123, Int.ofNat 0), (0, 124, Int.ofNat 0), (0, 125, Int.ofNat 0), (0, 126, Int.ofNat 0), (0, 114, Int.ofNat 0), (0, 129, Int.ofNat 0), (0, 115, Int.ofNat 0), (0, 116, Int.ofNat 0), (0, 49, Int.ofNat 0)]), (194, [], [(0, 117, Int.ofNat 0), (0, 92, Int.ofNat 0), (0, 98, Int.ofNat 0), (0, 115, Int.ofNat 0), (0, 112, Int.ofNat 0), (0, 113, Int.ofNat 0), (0, 116, Int.ofNat 0), (0, 124, Int.ofNat 0), (0, 99, Int.ofNat 0), (0, 127, Int.ofNat 0), (0, 128, Int.ofNat 0), (0, 123, Int.ofNat 0), (0, 125, Int.ofNat 0), (0, 126, Int.ofNat 0), (0, 130, Int.ofNat 0), (0, 129, Int.ofNat 0), (0, 114, Int.ofNat 0), (0, 46, Int.ofNat 0), (0, 49, Int.ofNat 0), (0, 0, Int.ofNat 2)]), (196, [], [(0, 50, Int.ofNat 0), (0, 53, Int.ofNat 0), (0, 93, Int.ofNat 0), (0, 98, Int.ofNat 0), (0, 0, Int.ofNat 3), (0, 123, Int.ofNat 0), (0, 124, Int.ofNat 0), (0, 125, Int.ofNat 0), (0, 126, Int.ofNat 0), (0, 114, Int.ofNat 0), (0, 129, Int.ofNat 0), (0, 115, Int.ofNat 0), (0, 116, Int.ofNat 0), (0, 49, Int.ofNat 0)]), (196, [], [(0, 54, Int.ofNat 0), (0, 57, Int.ofNat 0), (0, 94, Int.ofNat 0), (0, 98, Int.ofNat 0), (0, 0, Int.ofNat 4), (0, 123, Int.ofNat 0), (0, 124, Int.ofNat 0), (0, 125, Int.ofNat 0), (0, 126, Int.ofNat 0), (0, 114, Int.ofNat 0), (0, 129, Int.ofNat 0), (0, 115, Int.ofNat 0), (0, 116, Int.ofNat 0), (0, 49, Int.ofNat 0)]), (196, [], [(0, 58, Int.ofNat 0), (0, 61, Int.ofNat 0), (0, 95, Int.ofNat 0), (0, 98, Int.ofNat 0), (0, 0, Int.ofNat 5), (0, 123, Int.ofNat 0), (0, 124, Int.ofNat 0), (0, 125, Int.ofNat 0), (0, 126, Int.ofNat 0), (0, 114, Int.ofNat 0), (0, 129, Int.ofNat 0), (0, 115, Int.ofNat 0), (0, 116, Int.ofNat 0), (0, 49, Int.ofNat 0)])] (by dsimp only [cq_L_473, al_L_473])
set_option maxRecDepth 100000 in
theorem ah_L_474 : rf_ALT cq_L_474 := rf_alt_inf [(135, [], [(0, 114, Int.ofNat 0), (0, 114, Int.ofNat 0), (0, 135, Int.ofNat 0), (0, 121, Int.ofNat 0), (0, 96, Int.ofNat 0)]), (135, [], [(0, 114, Int.ofNat 0), (0, 114, Int.ofNat 0), (0, 131, Int.ofNat 0), (0, 53, Int.ofNat 0), (0, 97, Int.ofNat 0)]), (135, [], [(0, 112, Int.ofNat 0), (0, 112, Int.ofNat 0), (0, 136, Int.ofNat 0), (0, 122, Int.ofNat 0), (0, 96, Int.ofNat 0)]), (135, [], [(0, 112, Int.ofNat 0), (0, 112, Int.ofNat 0), (0, 133, Int.ofNat 0), (0, 119, Int.ofNat 0), (0, 97, Int.ofNat 0)]), (147, [], [(0, 131, Int.ofNat 0), (0, 116, Int.ofNat 0), (0, 132, Int.ofNat 0), (0, 115, Int.ofNat 0)]), (147, [], [(0, 133, Int.ofNat 0), (0, 116, Int.ofNat 0), (0, 134, Int.ofNat 0), (0, 113, Int.ofNat 0)]), (147, [], [(0, 53, Int.ofNat 0), (0, 115, Int.ofNat 0), (0, 118, Int.ofNat 0), (0, 116, Int.ofNat 0)]), (147, [], [(0, 119, Int.ofNat 0), (0, 113, Int.ofNat 0), (0, 120, Int.ofNat 0), (0, 116, Int.ofNat 0)]), (195, [], [(0, 38, Int.ofNat 0), (0, 41, Int.ofNat 0), (0, 90, Int.ofNat 0), (0, 98, Int.ofNat 0), (0, 0, Int.ofNat 0), (0, 123, Int.ofNat 0), (0, 124, Int.ofNat 0), (0, 125, Int.ofNat 0), (0, 126, Int.ofNat 0), (0, 114, Int.ofNat 0), (0, 129, Int.ofNat 0), (0, 115, Int.ofNat 0), (0, 116, Int.ofNat 0), (0, 53, Int.ofNat 0)]), (195, [], [(0, 42, Int.ofNat 0), (0, 45, Int.ofNat 0), (0, 91, Int.ofNat 0), (0, 98, Int.ofNat 0), (0, 0, Int.ofNat 1), (0, 123, Int.ofNat 0), (0, 124, Int.ofNat 0), (0, 125, Int.ofNat 0), (0, 126, Int.ofNat 0), (0, 114, Int.ofNat 0), (0, 129, Int.ofNat 0), (0, 115, Int.ofNat 0), (0, 116, Int.ofNat 0), (0, 53, Int.ofNat 0)]), (195, [], [(0, 46, Int.ofNat 0), (0, 49, Int.ofNat 0), (0, 92, Int.ofNat 0), (0, 98, Int.ofNat 0), (0, 0, Int.ofNat 2), (0, 123, Int.ofNat 0), (0, 124, Int.ofNat 0), (0, 125, Int.ofNat 0), (0, 126, Int.ofNat 0), (0, 114, Int.ofNat 0), (0, 129, Int.ofNat 0), (0, 115, Int.ofNat 0), (0, 116, Int.ofNat 0), (0, 53, Int.ofNat 0)]), (194, [], [(0, 117, Int.ofNat 0), (0, 93, Int.ofNat 0), (0, 98, Int.ofNat 0), (0, 115, Int.ofNat 0), (0, 112, Int.ofNat 0), (0, 113, Int.ofNat 0), (0, 116, Int.ofNat 0), (0, 124, Int.ofNat 0), (0, 99, Int.ofNat 0), (0, 127, Int.ofNat 0), (0, 128, Int.ofNat 0), (0, 123, Int.ofNat 0), (0, 125, Int.ofNat 0), (0, 126, Int.ofNat 0), (0, 130, Int.ofNat 0), (0, 129, Int.ofNat 0), (0, 114, Int.ofNat 0), (0, 50, Int.ofNat 0), (0, 53, Int.ofNat 0), (0, 0, Int.ofNat 3)]), (196, [], [(0, 54, Int.ofNat 0), (0, 57, Int.ofNat 0), (0, 94, Int.ofNat 0), (0, 98, Int.ofNat 0), (0, 0, Int.ofNat 4), (0, 123, Int.ofNat 0), (0, 124, Int.ofNat 0), (0, 125, Int.ofNat 0), (0, 126, Int.ofNat 0), (0, 114, Int.ofNat 0), (0, 129, Int.ofNat 0), (0, 115, Int.ofNat 0), (0, 116, Int.ofNat 0), (0, 53, Int.ofNat 0)]), (196, [], [(0, 58, Int.ofNat 0), (0, 61, Int.ofNat 0), (0, 95, Int.ofNat 0), (0, 98, Int.ofNat 0), (0, 0, Int.ofNat 5), (0, 123, Int.ofNat 0), (0, 124, Int.ofNat 0), (0, 125, Int.ofNat 0), (0, 126, Int.ofNat 0), (0, 114, Int.ofNat 0), (0, 129, Int.ofNat 0), (0, 115, Int.ofNat 0), (0, 116, Int.ofNat 0), (0, 53, Int.ofNat 0)])] (by dsimp only [cq_L_474, al_L_474])
set_option maxRecDepth 100000 in
theorem ah_L_475 : rf_ALT cq_L_475 := rf_alt_inf [(135, [], [(0, 114, Int.ofNat 0), (0, 114, Int.ofNat 0), (0, 135, Int.ofNat 0), (0, 121, Int.ofNat 0), (0, 96, Int.ofNat 0)]), (135, [], [(0, 114, Int.ofNat 0), (0, 114, Int.ofNat 0), (0, 131, Int.ofNat 0), (0, 57, Int.ofNat 0), (0, 97, Int.ofNat 0)]), (135, [], [(0, 112, Int.ofNat 0), (0, 112, Int.ofNat 0), (0, 136, Int.ofNat 0), (0, 122, Int.ofNat 0), (0, 96, Int.ofNat 0)]), (135, [], [(0, 112, Int.ofNat 0), (0, 112, Int.ofNat 0), (0, 133, Int.ofNat 0), (0, 119, Int.ofNat 0), (0, 97, Int.ofNat 0)]), (147, [], [(0, 131, Int.ofNat 0), (0, 116, Int.ofNat 0), (0, 132, Int.ofNat 0), (0, 115, Int.ofNat 0)]), (147, [], [(0, 133, Int.ofNat 0), (0, 116, Int.ofNat 0), (0, 134, Int.ofNat 0), (0, 113, Int.ofNat 0)]), (147, [], [(0, 57, Int.ofNat 0), (0, 115, Int.ofNat 0), (0, 118, Int.ofNat 0), (0, 116, Int.ofNat 0)]), (147, [], [(0, 119, Int.ofNat 0), (0, 113, Int.ofNat 0), (0, 120, Int.ofNat 0), (0, 116, Int.ofNat 0)]), (195, [], [(0, 38, Int.ofNat 0), (0, 41, Int.ofNat 0), (0, 90, Int.ofNat 0), (0, 98, Int.ofNat 0), (0, 0, Int.ofNat 0), (0, 123, Int.ofNat 0), (0, 124, Int.ofNat 0), (0, 125, Int.ofNat 0), (0, 126, Int.ofNat 0), (0, 114, Int.ofNat 0), (0, 129, Int.ofNat 0), (0, 115, Int.ofNat 0), (0, 116, Int.ofNat 0), (0, 57, Int.ofNat 0)]), (195, [], [(0, 42, Int.ofNat 0), (0, 45, Int.ofNat 0), (0, 91, Int.ofNat 0), (0, 98, Int.ofNat 0), (0, 0, Int.ofNat 1), (0, 123, Int.ofNat 0), (0, 124, Int.ofNat 0), (0, 125, Int.ofNat 0), (0, 126, Int.ofNat 0), (0, 114, Int.ofNat 0), (0, 129, Int.ofNat 0), (0, 115, Int.ofNat 0), (0, 116, Int.ofNat 0), (0, 57, Int.ofNat 0)]), (195, [], [(0, 46, Int.ofNat 0), (0, 49, Int.ofNat 0), (0, 92, Int.ofNat 0), (0, 98, Int.ofNat 0), (0, 0, Int.ofNat 2), (0, 123, Int.ofNat 0), (0, 124, Int.ofNat 0), (0, 125, Int.ofNat 0), (0, 126, Int.ofNat 0), (0, 114, Int.ofNat 0), (0, 129, Int.ofNat 0), (0, 115, Int.ofNat 0), (0, 116, Int.ofNat 0), (0, 57, Int.ofNat 0)]), (195, [], [(0, 50, Int.ofNat 0), (0, 53, Int.ofNat 0), (0, 93, Int.ofNat 0), (0, 98, Int.ofNat 0), (0, 0, Int.ofNat 3), (0, 123, Int.ofNat 0), (0, 124, Int.ofNat 0), (0, 125, Int.ofNat 0), (0, 126, Int.ofNat 0), (0, 114, Int.ofNat 0), (0, 129, Int.ofNat 0), (0, 115, Int.ofNat 0), (0, 116, Int.ofNat 0), (0, 57, Int.ofNat 0)]), (194, [], [(0, 117, Int.ofNat 0), (0, 94, Int.ofNat 0), (0, 98, Int.ofNat 0), (0, 115, Int.ofNat 0), (0, 112, Int.ofNat 0), (0, 113, Int.ofNat 0), (0, 116, Int.ofNat 0), (0, 124, Int.ofNat 0), (0, 99, Int.ofNat 0), (0, 127, Int.ofNat 0), (0, 128, Int.ofNat 0), (0, 123, Int.ofNat 0), (0, 125, Int.ofNat 0), (0, 126, Int.ofNat 0), (0, 130, Int.ofNat 0), (0, 129, Int.ofNat 0), (0, 114, Int.ofNat 0), (0, 54, Int.ofNat 0), (0, 57, Int.ofNat 0), (0, 0, Int.ofNat 4)]), (196, [], [(0, 58, Int.ofNat 0), (0, 61, Int.ofNat 0), (0, 95, Int.ofNat 0), (0, 98, Int.ofNat 0), (0, 0, Int.ofNat 5), (0, 123, Int.ofNat 0), (0, 124, Int.ofNat 0), (0, 125, Int.ofNat 0), (0, 126, Int.ofNat 0), (0, 114, Int.ofNat 0), (0, 129, Int.ofNat 0), (0, 115, Int.ofNat 0), (0, 116, Int.ofNat 0), (0, 57, Int.ofNat 0)])] (by dsimp only [cq_L_475, al_L_475])
set_option maxRecDepth 100000 in
theorem ah_L_476 : rf_ALT cq_L_476 := rf_alt_inf [(135, [], [(0, 114, Int.ofNat 0), (0, 114, Int.ofNat 0), (0, 135, Int.ofNat 0), (0, 121, Int.ofNat 0), (0, 96, Int.ofNat 0)]), (135, [], [(0, 114, Int.ofNat 0), (0, 114, Int.ofNat 0), (0, 131, Int.ofNat 0), (0, 61, Int.ofNat 0), (0, 97, Int.ofNat 0)]), (135, [], [(0, 112, Int.ofNat 0), (0, 112, Int.ofNat 0), (0, 136, Int.ofNat 0), (0, 122, Int.ofNat 0), (0, 96, Int.ofNat 0)]), (135, [], [(0, 112, Int.ofNat 0), (0, 112, Int.ofNat 0), (0, 133, Int.ofNat 0), (0, 119, Int.ofNat 0), (0, 97, Int.ofNat 0)]), (147, [], [(0, 131, Int.ofNat 0), (0, 116, Int.ofNat 0), (0, 132, Int.ofNat 0), (0, 115, Int.ofNat 0)]), (147, [], [(0, 133, Int.ofNat 0), (0, 116, Int.ofNat 0), (0, 134, Int.ofNat 0), (0, 113, Int.ofNat 0)]), (147, [], [(0, 61, Int.ofNat 0), (0, 115, Int.ofNat 0), (0, 118, Int.ofNat 0), (0, 116, Int.ofNat 0)]), (147, [], [(0, 119, Int.ofNat 0), (0, 113, Int.ofNat 0), (0, 120, Int.ofNat 0), (0, 116, Int.ofNat 0)]), (195, [], [(0, 38, Int.ofNat 0), (0, 41, Int.ofNat 0), (0, 90, Int.ofNat 0), (0, 98, Int.ofNat 0), (0, 0, Int.ofNat 0), (0, 123, Int.ofNat 0), (0, 124, Int.ofNat 0), (0, 125, Int.ofNat 0), (0, 126, Int.ofNat 0), (0, 114, Int.ofNat 0), (0, 129, Int.ofNat 0), (0, 115, Int.ofNat 0), (0, 116, Int.ofNat 0), (0, 61, Int.ofNat 0)]), (195, [], [(0, 42, Int.ofNat 0), (0, 45, Int.ofNat 0), (0, 91, Int.ofNat 0), (0, 98, Int.ofNat 0), (0, 0, Int.ofNat 1), (0, 123, Int.ofNat 0), (0, 124, Int.ofNat 0), (0, 125, Int.ofNat 0), (0, 126, Int.ofNat 0), (0, 114, Int.ofNat 0), (0, 129, Int.ofNat 0), (0, 115, Int.ofNat 0), (0, 116, Int.ofNat 0), (0, 61, Int.ofNat 0)]), (195, [], [(0, 46, Int.ofNat 0), (0, 49, Int.ofNat 0), (0, 92, Int.ofNat 0), (0, 98, Int.ofNat 0), (0, 0, Int.ofNat 2), (0, 123, Int.ofNat 0), (0, 124, Int.ofNat 0), (0, 125, Int.ofNat 0), (0, 126, Int.ofNat 0), (0, 114, Int.ofNat 0), (0, 129, Int.ofNat 0), (0, 115, Int.ofNat 0), (0, 116, Int.ofNat 0), (0, 61, Int.ofNat 0)]), (195, [], [(0, 50, Int.ofNat 0), (0, 53, Int.ofNat 0), (0, 93, Int.ofNat 0), (0, 98, Int.ofNat 0), (0, 0, Int.ofNat 3), (0, 123, Int.ofNat 0), (0, 124, Int.ofNat 0), (0, 125, Int.ofNat 0), (0, 126, Int.ofNat 0), (0, 114, Int.ofNat 0), (0, 129, Int.ofNat 0), (0, 115, Int.ofNat 0), (0, 116, Int.ofNat 0), (0, 61, Int.ofNat 0)]), (195, [], [(0, 54, Int.ofNat 0), (0, 57, Int.ofNat 0), (0, 94, Int.ofNat 0), (0, 98, Int.ofNat 0), (0, 0, Int.ofNat 4), (0, 123, Int.ofNat 0), (0, 124, Int.ofNat 0), (0, 125, Int.ofNat 0), (0, 126, Int.ofNat 0), (0, 114, Int.ofNat 0), (0, 129, Int.ofNat 0), (0, 115, Int.ofNat 0), (0, 116, Int.ofNat 0), (0, 61, Int.ofNat 0)]), (194, [], [(0, 117, Int.ofNat 0), (0, 95, Int.ofNat 0), (0, 98, Int.ofNat 0), (0, 115, Int.ofNat 0), (0, 112, Int.ofNat 0), (0, 113, Int.ofNat 0), (0, 116, Int.ofNat 0), (0, 124, Int.ofNat 0), (0, 99, Int.ofNat 0), (0, 127, Int.ofNat 0), (0, 128, Int.ofNat 0), (0, 123, Int.ofNat 0), (0, 125, Int.ofNat 0), (0, 126, Int.ofNat 0), (0, 130, Int.ofNat 0), (0, 129, Int.ofNat 0), (0, 114, Int.ofNat 0), (0, 58, Int.ofNat 0), (0, 61, Int.ofNat 0), (0, 0, Int.ofNat 5)])] (by dsimp only [cq_L_476, al_L_476])
set_option maxRecDepth 100000 in
theorem ah_L_477 : rf_ALT cq_L_477 := rf_alt_self rfl
set_option maxRecDepth 100000 in
theorem ah_L_478 : rf_ALT cq_L_478 := rf_alt_self rfl
set_option maxRecDepth 100000 in
theorem ah_L : ∀ cu ∈ cu_L, rf_ALT cu := (List.forall_mem_cons.mpr ⟨ah_L_0, (List.forall_mem_cons.mpr ⟨ah_L_1, (List.forall_mem_cons.mpr ⟨ah_L_2, (List.forall_mem_cons.mpr ⟨ah_L_3, (List.forall_mem_cons.mpr ⟨ah_L_4, (List.forall_mem_cons.mpr ⟨ah_L_5, (List.forall_mem_cons.mpr ⟨ah_L_6, (List.forall_mem_cons.mpr ⟨ah_L_7, (List.forall_mem_cons.mpr ⟨ah_L_8, (List.forall_mem_cons.mpr ⟨ah_L_9, (List.forall_mem_cons.mpr ⟨ah_L_10, (List.forall_mem_cons.mpr ⟨ah_L_11, (List.forall_mem_cons.mpr ⟨ah_L_12, (List.forall_mem_cons.mpr ⟨ah_L_13, (List.forall_mem_cons.mpr ⟨ah_L_14, (List.forall_mem_cons.mpr ⟨ah_L_15, (List.forall_mem_cons.mpr ⟨ah_L_16, (List.forall_mem_cons.mpr ⟨ah_L_17, (List.forall_mem_cons.mpr ⟨ah_L_18, (List.forall_mem_cons.mpr ⟨ah_L_19, (List.forall_mem_cons.mpr ⟨ah_L_20, (List.forall_mem_cons.mpr ⟨ah_L_21, (List.forall_mem_cons.mpr ⟨ah_L_22, (List.forall_mem_cons.mpr ⟨ah_L_23, (List.forall_mem_cons.mpr ⟨ah_L_24, (List.forall_mem_cons.mpr ⟨ah_L_25, (List.forall_mem_cons.mpr ⟨ah_L_26, (List.forall_mem_cons.mpr ⟨ah_L_27, (List.forall_mem_cons.mpr ⟨ah_L_28, (List.forall_mem_cons.mpr ⟨ah_L_29, (List.forall_mem_cons.mpr ⟨ah_L_30, (List.forall_mem_cons.mpr ⟨ah_L_31, (List.forall_mem_cons.mpr ⟨ah_L_32, (List.forall_mem_cons.mpr ⟨ah_L_33, (List.forall_mem_cons.mpr ⟨ah_L_34, (List.forall_mem_cons.mpr ⟨ah_L_35, (List.forall_mem_cons.mpr ⟨ah_L_36, (List.forall_mem_cons.mpr ⟨ah_L_37, (List.forall_mem_cons.mpr ⟨ah_L_38, (List.forall_mem_cons.mpr ⟨ah_L_39, (List.forall_mem_cons.mpr ⟨ah_L_40, (List.forall_mem_cons.mpr ⟨ah_L_41, (List.forall_mem_cons.mpr ⟨ah_L_42, (List.forall_mem_cons.mpr ⟨ah_L_43, (List.forall_mem_cons.mpr ⟨ah_L_44, (List.forall_mem_cons.mpr ⟨ah_L_45, (List.forall_mem_cons.mpr ⟨ah_L_46, (List.forall_mem_cons.mpr ⟨ah_L_47, (List.forall_mem_cons.mpr ⟨ah_L_48, (List.forall_mem_cons.mpr ⟨ah_L_49, (List.forall_mem_cons.mpr ⟨ah_L_50, (List.forall_mem_cons.mpr ⟨ah_L_51, (List.forall_mem_cons.mpr ⟨ah_L_52, (List.forall_mem_cons.mpr ⟨ah_L_53, (List.forall_mem_cons.mpr ⟨ah_L_54, (List.forall_mem_cons.mpr ⟨ah_L_55, (List.forall_mem_cons.mpr ⟨ah_L_56, (List.forall_mem_cons.mpr ⟨ah_L_57, (List.forall_mem_cons.mpr ⟨ah_L_58, (List.forall_mem_cons.mpr ⟨ah_L_59, (List.forall_mem_cons.mpr ⟨ah_L_60, (List.forall_mem_cons.mpr ⟨ah_L_61, (List.forall_mem_cons.mpr ⟨ah_L_62, (List.forall_mem_cons.mpr ⟨ah_L_63, (List.forall_mem_cons.mpr ⟨ah_L_64, (List.forall_mem_cons.mpr ⟨ah_L_65, (List.forall_mem_cons.mpr ⟨ah_L_66, (List.forall_mem_cons.mpr ⟨ah_L_67, (List.forall_mem_cons.mpr ⟨ah_L_68, (List.forall_mem_cons.mpr ⟨ah_L_69, (List.forall_mem_cons.mpr ⟨ah_L_70, (List.forall_mem_cons.mpr ⟨ah_L_71, (List.forall_mem_cons.mpr ⟨ah_L_72, (List.forall_mem_cons.mpr ⟨ah_L_73, (List.forall_mem_cons.mpr ⟨ah_L_74, (List.forall_mem_cons.mpr ⟨ah_L_75, (List.forall_mem_cons.mpr ⟨ah_L_76, (List.forall_mem_cons.mpr ⟨ah_L_77, (List.forall_mem_cons.mpr ⟨ah_L_78, (List.forall_mem_cons.mpr ⟨ah_L_79, (List.forall_mem_cons.mpr ⟨ah_L_80, (List.forall_mem_cons.mpr ⟨ah_L_81, (List.forall_mem_cons.mpr ⟨ah_L_82, (List.forall_mem_cons.mpr ⟨ah_L_83, (List.forall_mem_cons.mpr ⟨ah_L_84, (List.forall_mem_cons.mpr ⟨ah_L_85, (List.forall_mem_cons.mpr ⟨ah_L_86, (List.forall_mem_cons.mpr ⟨ah_L_87, (List.forall_mem_cons.mpr ⟨ah_L_88, (List.forall_mem_cons.mpr ⟨ah_L_89, (List.forall_mem_cons.mpr ⟨ah_L_90, (List.forall_mem_cons.mpr ⟨ah_L_91, (List.forall_mem_cons.mpr ⟨ah_L_92, (List.forall_mem_cons.mpr ⟨ah_L_93, (List.forall_mem_cons.mpr ⟨ah_L_94, (List.forall_mem_cons.mpr ⟨ah_L_95, (List.forall_mem_cons.mpr ⟨ah_L_96, (List.forall_mem_cons.mpr ⟨ah_L_97, (List.forall_mem_cons.mpr ⟨ah_L_98, (List.forall_mem_cons.mpr ⟨ah_L_99, (List.forall_mem_cons.mpr ⟨ah_L_100, (List.forall_mem_cons.mpr ⟨ah_L_101, (List.forall_mem_cons.mpr ⟨ah_L_102, (List.forall_mem_cons.mpr ⟨ah_L_103, (List.forall_mem_cons.mpr ⟨ah_L_104, (List.forall_mem_cons.mpr ⟨ah_L_105, (List.forall_mem_cons.mpr ⟨ah_L_106, (List.forall_mem_cons.mpr ⟨ah_L_107, (List.forall_mem_cons.mpr ⟨ah_L_108, (List.forall_mem_cons.mpr ⟨ah_L_109, (List.forall_mem_cons.mpr ⟨ah_L_110, (List.forall_mem_cons.mpr ⟨ah_L_111, (List.forall_mem_cons.mpr ⟨ah_L_112, (List.forall_mem_cons.mpr ⟨ah_L_113, (List.forall_mem_cons.mpr ⟨ah_L_114, (List.forall_mem_cons.mpr ⟨ah_L_115, (List.forall_mem_cons.mpr ⟨ah_L_116, (List.forall_mem_cons.mpr ⟨ah_L_117, (List.forall_mem_cons.mpr ⟨ah_L_118, (List.forall_mem_cons.mpr ⟨ah_L_119, (List.forall_mem_cons.mpr ⟨ah_L_120, (List.forall_mem_cons.mpr ⟨ah_L_121, (List.forall_mem_cons.mpr ⟨ah_L_122, (List.forall_mem_cons.mpr ⟨ah_L_123, (List.forall_mem_cons.mpr ⟨ah_L_124, (List.forall_mem_cons.mpr ⟨ah_L_125, (List.forall_mem_cons.mpr ⟨ah_L_126, (List.forall_mem_cons.mpr ⟨ah_L_127, (List.forall_mem_cons.mpr ⟨ah_L_128, (List.forall_mem_cons.mpr ⟨ah_L_129, (List.forall_mem_cons.mpr ⟨ah_L_130, (List.forall_mem_cons.mpr ⟨ah_L_131, (List.forall_mem_cons.mpr ⟨ah_L_132, (List.forall_mem_cons.mpr ⟨ah_L_133, (List.forall_mem_cons.mpr ⟨ah_L_134, (List.forall_mem_cons.mpr ⟨ah_L_135, (List.forall_mem_cons.mpr ⟨ah_L_136, (List.forall_mem_cons.mpr ⟨ah_L_137, (List.forall_mem_cons.mpr ⟨ah_L_138, (List.forall_mem_cons.mpr ⟨ah_L_139, (List.forall_mem_cons.mpr ⟨ah_L_140, (List.forall_mem_cons.mpr ⟨ah_L_141, (List.forall_mem_cons.mpr ⟨ah_L_142, (List.forall_mem_cons.mpr ⟨ah_L_143, (List.forall_mem_cons.mpr ⟨ah_L_144, (List.forall_mem_cons.mpr ⟨ah_L_145, (List.forall_mem_cons.mpr ⟨ah_L_146, (List.forall_mem_cons.mpr ⟨ah_L_147, (List.forall_mem_cons.mpr ⟨ah_L_148, (List.forall_mem_cons.mpr ⟨ah_L_149, (List.forall_mem_cons.mpr ⟨ah_L_150, (List.forall_mem_cons.mpr ⟨ah_L_151, (List.forall_mem_cons.mpr ⟨ah_L_152, (List.forall_mem_cons.mpr ⟨ah_L_153, (List.forall_mem_cons.mpr ⟨ah_L_154, (List.forall_mem_cons.mpr ⟨ah_L_155, (List.forall_mem_cons.mpr ⟨ah_L_156, (List.forall_mem_cons.mpr ⟨ah_L_157, (List.forall_mem_cons.mpr ⟨ah_L_158, (List.forall_mem_cons.mpr ⟨ah_L_159, (List.forall_mem_cons.mpr ⟨ah_L_160, (List.forall_mem_cons.mpr ⟨ah_L_161, (List.forall_mem_cons.mpr ⟨ah_L_162, (List.forall_mem_cons.mpr ⟨ah_L_163, (List.forall_mem_cons.mpr ⟨ah_L_164, (List.forall_mem_cons.mpr ⟨ah_L_165, (List.forall_mem_cons.mpr ⟨ah_L_166, (List.forall_mem_cons.mpr ⟨ah_L_167, (List.forall_mem_cons.mpr ⟨ah_L_168, (List.forall_mem_cons.mpr ⟨ah_L_169, (List.forall_mem_cons.mpr ⟨ah_L_170, (List.forall_mem_cons.mpr ⟨ah_L_171, (List.forall_mem_cons.mpr ⟨ah_L_172, (List.forall_mem_cons.mpr ⟨ah_L_173, (List.forall_mem_cons.mpr ⟨ah_L_174, (List.forall_mem_cons.mpr ⟨ah_L_175, (List.forall_mem_cons.mpr ⟨ah_L_176, (List.forall_mem_cons.mpr ⟨ah_L_177, (List.forall_mem_cons.mpr ⟨ah_L_178, (List.forall_mem_cons.mpr ⟨ah_L_179, (List.forall_mem_cons.mpr ⟨ah_L_180, (List.forall_mem_cons.mpr ⟨ah_L_181, (List.forall_mem_cons.mpr ⟨ah_L_182, (List.forall_mem_cons.mpr ⟨ah_L_183, (List.forall_mem_cons.mpr ⟨ah_L_184, (List.forall_mem_cons.mpr ⟨ah_L_185, (List.forall_mem_cons.mpr ⟨ah_L_186, (List.forall_mem_cons.mpr ⟨ah_L_187, (List.forall_mem_cons.mpr ⟨ah_L_188, (List.forall_mem_cons.mpr ⟨ah_L_189, (List.forall_mem_cons.mpr ⟨ah_L_190, (List.forall_mem_cons.mpr ⟨ah_L_191, (List.forall_mem_cons.mpr ⟨ah_L_192, (List.forall_mem_cons.mpr ⟨ah_L_193, (List.forall_mem_cons.mpr ⟨ah_L_194, (List.forall_mem_cons.mpr ⟨ah_L_195, (List.forall_mem_cons.mpr ⟨ah_L_196, (List.forall_mem_cons.mpr ⟨ah_L_197, (List.forall_mem_cons.mpr ⟨ah_L_198, (List.forall_mem_cons.mpr ⟨ah_L_199, (List.forall_mem_cons.mpr ⟨ah_L_200, (List.forall_mem_cons.mpr ⟨ah_L_201, (List.forall_mem_cons.mpr ⟨ah_L_202, (List.forall_mem_cons.mpr ⟨ah_L_203, (List.forall_mem_cons.mpr ⟨ah_L_204, (List.forall_mem_cons.mpr ⟨ah_L_205, (List.forall_mem_cons.mpr ⟨ah_L_206, (List.forall_mem_cons.mpr ⟨ah_L_207, (List.forall_mem_cons.mpr ⟨ah_L_208, (List.forall_mem_cons.mpr ⟨ah_L_209, (List.forall_mem_cons.mpr ⟨ah_L_210, (List.forall_mem_cons.mpr ⟨ah_L_211, (List.forall_mem_cons.mpr ⟨ah_L_212, (List.forall_mem_cons.mpr ⟨ah_L_213, (List.forall_mem_cons.mpr ⟨ah_L_214, (List.forall_mem_cons.mpr ⟨ah_L_215, (List.forall_mem_cons.mpr ⟨ah_L_216, (List.forall_mem_cons.mpr ⟨ah_L_217, (List.forall_mem_cons.mpr ⟨ah_L_218, (List.forall_mem_cons.mpr ⟨ah_L_219, (List.forall_mem_cons.mpr ⟨ah_L_220, (List.forall_mem_cons.mpr ⟨ah_L_221, (List.forall_mem_cons.mpr ⟨ah_L_222, (List.forall_mem_cons.mpr ⟨ah_L_223, (List.forall_mem_cons.mpr ⟨ah_L_224, (List.forall_mem_cons.mpr ⟨ah_L_225, (List.forall_mem_cons.mpr ⟨ah_L_226, (List.forall_mem_cons.mpr ⟨ah_L_227, (List.forall_mem_cons.mpr ⟨ah_L_228, (List.forall_mem_cons.mpr ⟨ah_L_229, (List.forall_mem_cons.mpr ⟨ah_L_230, (List.forall_mem_cons.mpr ⟨ah_L_231, (List.forall_mem_cons.mpr ⟨ah_L_232, (List.forall_mem_cons.mpr ⟨ah_L_233, (List.forall_mem_cons.mpr ⟨ah_L_234, (List.forall_mem_cons.mpr ⟨ah_L_235, (List.forall_mem_cons.mpr ⟨ah_L_236, (List.forall_mem_cons.mpr ⟨ah_L_237, (List.forall_mem_cons.mpr ⟨ah_L_238, (List.forall_mem_cons.mpr ⟨ah_L_239, (List.forall_mem_cons.mpr ⟨ah_L_240, (List.forall_mem_cons.mpr ⟨ah_L_241, (List.forall_mem_cons.mpr ⟨ah_L_242, (List.forall_mem_cons.mpr ⟨ah_L_243, (List.forall_mem_cons.mpr ⟨ah_L_244, (List.forall_mem_cons.mpr ⟨ah_L_245, (List.forall_mem_cons.mpr ⟨ah_L_246, (List.forall_mem_cons.mpr ⟨ah_L_247, (List.forall_mem_cons.mpr ⟨ah_L_248, (List.forall_mem_cons.mpr ⟨ah_L_249, (List.forall_mem_cons.mpr ⟨ah_L_250, (List.forall_mem_cons.mpr ⟨ah_L_251, (List.forall_mem_cons.mpr ⟨ah_L_252, (List.forall_mem_cons.mpr ⟨ah_L_253, (List.forall_mem_cons.mpr ⟨ah_L_254, (List.forall_mem_cons.mpr ⟨ah_L_255, (List.forall_mem_cons.mpr ⟨ah_L_256, (List.forall_mem_cons.mpr ⟨ah_L_257, (List.forall_mem_cons.mpr ⟨ah_L_258, (List.forall_mem_cons.mpr ⟨ah_L_259, (List.forall_mem_cons.mpr ⟨ah_L_260, (List.forall_mem_cons.mpr ⟨ah_L_261, (List.forall_mem_cons.mpr ⟨ah_L_262, (List.forall_mem_cons.mpr ⟨ah_L_263, (List.forall_mem_cons.mpr ⟨ah_L_264, (List.forall_mem_cons.mpr ⟨ah_L_265, (List.forall_mem_cons.mpr ⟨ah_L_266, (List.forall_mem_cons.mpr ⟨ah_L_267, (List.forall_mem_cons.mpr ⟨ah_L_268, (List.forall_mem_cons.mpr ⟨ah_L_269, (List.forall_mem_cons.mpr ⟨ah_L_270, (List.forall_mem_cons.mpr ⟨ah_L_271, (List.forall_mem_cons.mpr ⟨ah_L_272, (List.forall_mem_cons.mpr ⟨ah_L_273, (List.forall_mem_cons.mpr ⟨ah_L_274, (List.forall_mem_cons.mpr ⟨ah_L_275, (List.forall_mem_cons.mpr ⟨ah_L_276, (List.forall_mem_cons.mpr ⟨ah_L_277, (List.forall_mem_cons.mpr ⟨ah_L_278, (List.forall_mem_cons.mpr ⟨ah_L_279, (List.forall_mem_cons.mpr ⟨ah_L_280, (List.forall_mem_cons.mpr ⟨ah_L_281, (List.forall_mem_cons.mpr ⟨ah_L_282, (List.forall_mem_cons.mpr ⟨ah_L_283, (List.forall_mem_cons.mpr ⟨ah_L_284, (List.forall_mem_cons.mpr ⟨ah_L_285, (List.forall_mem_cons.mpr ⟨ah_L_286, (List.forall_mem_cons.mpr ⟨ah_L_287, (List.forall_mem_cons.mpr ⟨ah_L_288, (List.forall_mem_cons.mpr ⟨ah_L_289, (List.forall_mem_cons.mpr ⟨ah_L_290, (List.forall_mem_cons.mpr ⟨ah_L_291, (List.forall_mem_cons.mpr ⟨ah_L_292, (List.forall_mem_cons.mpr ⟨ah_L_293, (List.forall_mem_cons.mpr ⟨ah_L_294, (List.forall_mem_cons.mpr ⟨ah_L_295, (List.forall_mem_cons.mpr ⟨ah_L_296, (List.forall_mem_cons.mpr ⟨ah_L_297, (List.forall_mem_cons.mpr ⟨ah_L_298, (List.forall_mem_cons.mpr ⟨ah_L_299, (List.forall_mem_cons.mpr ⟨ah_L_300, (List.forall_mem_cons.mpr ⟨ah_L_301, (List.forall_mem_cons.mpr ⟨ah_L_302, (List.forall_mem_cons.mpr ⟨ah_L_303, (List.forall_mem_cons.mpr ⟨ah_L_304, (List.forall_mem_cons.mpr ⟨ah_L_305, (List.forall_mem_cons.mpr ⟨ah_L_306, (List.forall_mem_cons.mpr ⟨ah_L_307, (List.forall_mem_cons.mpr ⟨ah_L_308, (List.forall_mem_cons.mpr ⟨ah_L_309, (List.forall_mem_cons.mpr ⟨ah_L_310, (List.forall_mem_cons.mpr ⟨ah_L_311, (List.forall_mem_cons.mpr ⟨ah_L_312, (List.forall_mem_cons.mpr ⟨ah_L_313, (List.forall_mem_cons.mpr ⟨ah_L_314, (List.forall_mem_cons.mpr ⟨ah_L_315, (List.forall_mem_cons.mpr ⟨ah_L_316, (List.forall_mem_cons.mpr ⟨ah_L_317, (List.forall_mem_cons.mpr ⟨ah_L_318, (List.forall_mem_cons.mpr ⟨ah_L_319, (List.forall_mem_cons.mpr ⟨ah_L_320, (List.forall_mem_cons.mpr ⟨ah_L_321, (List.forall_mem_cons.mpr ⟨ah_L_322, (List.forall_mem_cons.mpr ⟨ah_L_323, (List.forall_mem_cons.mpr ⟨ah_L_324, (List.forall_mem_cons.mpr ⟨ah_L_325, (List.forall_mem_cons.mpr ⟨ah_L_326, (List.forall_mem_cons.mpr ⟨ah_L_327, (List.forall_mem_cons.mpr ⟨ah_L_328, (List.forall_mem_cons.mpr ⟨ah_L_329, (List.forall_mem_cons.mpr ⟨ah_L_330, (List.forall_mem_cons.mpr ⟨ah_L_331, (List.forall_mem_cons.mpr ⟨ah_L_332, (List.forall_mem_cons.mpr ⟨ah_L_333, (List.forall_mem_cons.mpr ⟨ah_L_334, (List.forall_mem_cons.mpr ⟨ah_L_335, (List.forall_mem_cons.mpr ⟨ah_L_336, (List.forall_mem_cons.mpr ⟨ah_L_337, (List.forall_mem_cons.mpr ⟨ah_L_338, (List.forall_mem_cons.mpr ⟨ah_L_339, (List.forall_mem_cons.mpr ⟨ah_L_340, (List.forall_mem_cons.mpr ⟨ah_L_341, (List.forall_mem_cons.mpr ⟨ah_L_342, (List.forall_mem_cons.mpr ⟨ah_L_343, (List.forall_mem_cons.mpr ⟨ah_L_344, (List.forall_mem_cons.mpr ⟨ah_L_345, (List.forall_mem_cons.mpr ⟨ah_L_346, (List.forall_mem_cons.mpr ⟨ah_L_347, (List.forall_mem_cons.mpr ⟨ah_L_348, (List.forall_mem_cons.mpr ⟨ah_L_349, (List.forall_mem_cons.mpr ⟨ah_L_350, (List.forall_mem_cons.mpr ⟨ah_L_351, (List.forall_mem_cons.mpr ⟨ah_L_352, (List.forall_mem_cons.mpr ⟨ah_L_353, (List.forall_mem_cons.mpr ⟨ah_L_354, (List.forall_mem_cons.mpr ⟨ah_L_355, (List.forall_mem_cons.mpr ⟨ah_L_356, (List.forall_mem_cons.mpr ⟨ah_L_357, (List.forall_mem_cons.mpr ⟨ah_L_358, (List.forall_mem_cons.mpr ⟨ah_L_359, (List.forall_mem_cons.mpr ⟨ah_L_360, (List.forall_mem_cons.mpr ⟨ah_L_361, (List.forall_mem_cons.mpr ⟨ah_L_362, (List.forall_mem_cons.mpr ⟨ah_L_363, (List.forall_mem_cons.mpr ⟨ah_L_364, (List.forall_mem_cons.mpr ⟨ah_L_365, (List.forall_mem_cons.mpr ⟨ah_L_366, (List.forall_mem_cons.mpr ⟨ah_L_367, (List.forall_mem_cons.mpr ⟨ah_L_368, (List.forall_mem_cons.mpr ⟨ah_L_369, (List.forall_mem_cons.mpr ⟨ah_L_370, (List.forall_mem_cons.mpr ⟨ah_L_371, (List.forall_mem_cons.mpr ⟨ah_L_372, (List.forall_mem_cons.mpr ⟨ah_L_373, (List.forall_mem_cons.mpr ⟨ah_L_374, (List.forall_mem_cons.mpr ⟨ah_L_375, (List.forall_mem_cons.mpr ⟨ah_L_376, (List.forall_mem_cons.mpr ⟨ah_L_377, (List.forall_mem_cons.mpr ⟨ah_L_378, (List.forall_mem_cons.mpr ⟨ah_L_379, (List.forall_mem_cons.mpr ⟨ah_L_380, (List.forall_mem_cons.mpr ⟨ah_L_381, (List.forall_mem_cons.mpr ⟨ah_L_382, (List.forall_mem_cons.mpr ⟨ah_L_383, (List.forall_mem_cons.mpr ⟨ah_L_384, (List.forall_mem_cons.mpr ⟨ah_L_385, (List.forall_mem_cons.mpr ⟨ah_L_386, (List.forall_mem_cons.mpr ⟨ah_L_387, (List.forall_mem_cons.mpr ⟨ah_L_388, (List.forall_mem_cons.mpr ⟨ah_L_389, (List.forall_mem_cons.mpr ⟨ah_L_390, (List.forall_mem_cons.mpr ⟨ah_L_391, (List.forall_mem_cons.mpr ⟨ah_L_392, (List.forall_mem_cons.mpr ⟨ah_L_393, (List.forall_mem_cons.mpr ⟨ah_L_394, (List.forall_mem_cons.mpr ⟨ah_L_395, (List.forall_mem_cons.mpr ⟨ah_L_396, (List.forall_mem_cons.mpr ⟨ah_L_397, (List.forall_mem_cons.mpr ⟨ah_L_398, (List.forall_mem_cons.mpr ⟨ah_L_399, (List.forall_mem_cons.mpr ⟨ah_L_400, (List.forall_mem_cons.mpr ⟨ah_L_401, (List.forall_mem_cons.mpr ⟨ah_L_402, (List.forall_mem_cons.mpr ⟨ah_L_403, (List.forall_mem_cons.mpr ⟨ah_L_404, (List.forall_mem_cons.mpr ⟨ah_L_405, (List.forall_mem_cons.mpr ⟨ah_L_406, (List.forall_mem_cons.mpr ⟨ah_L_407, (List.forall_mem_cons.mpr ⟨ah_L_408, (List.forall_mem_cons.mpr ⟨ah_L_409, (List.forall_mem_cons.mpr ⟨ah_L_410, (List.forall_mem_cons.mpr ⟨ah_L_411, (List.forall_mem_cons.mpr ⟨ah_L_412, (List.forall_mem_cons.mpr ⟨ah_L_413, (List.forall_mem_cons.mpr ⟨ah_L_414, (List.forall_mem_cons.mpr ⟨ah_L_415, (List.forall_mem_cons.mpr ⟨ah_L_416, (List.forall_mem_cons.mpr ⟨ah_L_417, (List.forall_mem_cons.mpr ⟨ah_L_418, (List.forall_mem_cons.mpr ⟨ah_L_419, (List.forall_mem_cons.mpr ⟨ah_L_420, (List.forall_mem_cons.mpr ⟨ah_L_421, (List.forall_mem_cons.mpr ⟨ah_L_422, (List.forall_mem_cons.mpr ⟨ah_L_423, (List.forall_mem_cons.mpr ⟨ah_L_424, (List.forall_mem_cons.mpr ⟨ah_L_425, (List.forall_mem_cons.mpr ⟨ah_L_426, (List.forall_mem_cons.mpr ⟨ah_L_427, (List.forall_mem_cons.mpr ⟨ah_L_428, (List.forall_mem_cons.mpr ⟨ah_L_429, (List.forall_mem_cons.mpr ⟨ah_L_430, (List.forall_mem_cons.mpr ⟨ah_L_431, (List.forall_mem_cons.mpr ⟨ah_L_432, (List.forall_mem_cons.mpr ⟨ah_L_433, (List.forall_mem_cons.mpr ⟨ah_L_434, (List.forall_mem_cons.mpr ⟨ah_L_435, (List.forall_mem_cons.mpr ⟨ah_L_436, (List.forall_mem_cons.mpr ⟨ah_L_437, (List.forall_mem_cons.mpr ⟨ah_L_438, (List.forall_mem_cons.mpr ⟨ah_L_439, (List.forall_mem_cons.mpr ⟨ah_L_440, (List.forall_mem_cons.mpr ⟨ah_L_441, (List.forall_mem_cons.mpr ⟨ah_L_442, (List.forall_mem_cons.mpr ⟨ah_L_443, (List.forall_mem_cons.mpr ⟨ah_L_444, (List.forall_mem_cons.mpr ⟨ah_L_445, (List.forall_mem_cons.mpr ⟨ah_L_446, (List.forall_mem_cons.mpr ⟨ah_L_447, (List.forall_mem_cons.mpr ⟨ah_L_448, (List.forall_mem_cons.mpr ⟨ah_L_449, (List.forall_mem_cons.mpr ⟨ah_L_450, (List.forall_mem_cons.mpr ⟨ah_L_451, (List.forall_mem_cons.mpr ⟨ah_L_452, (List.forall_mem_cons.mpr ⟨ah_L_453, (List.forall_mem_cons.mpr ⟨ah_L_454, (List.forall_mem_cons.mpr ⟨ah_L_455, (List.forall_mem_cons.mpr ⟨ah_L_456, (List.forall_mem_cons.mpr ⟨ah_L_457, (List.forall_mem_cons.mpr ⟨ah_L_458, (List.forall_mem_cons.mpr ⟨ah_L_459, (List.forall_mem_cons.mpr ⟨ah_L_460, (List.forall_mem_cons.mpr ⟨ah_L_461, (List.forall_mem_cons.mpr ⟨ah_L_462, (List.forall_mem_cons.mpr ⟨ah_L_463, (List.forall_mem_cons.mpr ⟨ah_L_464, (List.forall_mem_cons.mpr ⟨ah_L_465, (List.forall_mem_cons.mpr ⟨ah_L_466, (List.forall_mem_cons.mpr ⟨ah_L_467, (List.forall_mem_cons.mpr ⟨ah_L_468, (List.forall_mem_cons.mpr ⟨ah_L_469, (List.forall_mem_cons.mpr ⟨ah_L_470, (List.forall_mem_cons.mpr ⟨ah_L_471, (List.forall_mem_cons.mpr ⟨ah_L_472, (List.forall_mem_cons.mpr ⟨ah_L_473, (List.forall_mem_cons.mpr ⟨ah_L_474, (List.forall_mem_cons.mpr ⟨ah_L_475, (List.forall_mem_cons.mpr ⟨ah_L_476, (List.forall_mem_cons.mpr ⟨ah_L_477, (List.forall_mem_cons.mpr ⟨ah_L_478, (fun _ h => absurd h List.not_mem_nil)⟩)⟩)⟩)⟩)⟩)⟩)⟩)⟩)⟩)⟩)⟩)⟩)⟩)⟩)⟩)⟩)⟩)⟩)⟩)⟩)⟩)⟩)⟩)⟩)⟩)⟩)⟩)⟩)⟩)⟩)⟩)⟩)⟩)⟩)⟩)⟩)⟩)⟩)⟩)⟩)⟩)⟩)⟩)⟩)⟩)⟩)⟩)⟩)⟩)⟩)⟩)⟩)⟩)⟩)⟩)⟩)⟩)⟩)⟩)⟩)⟩)⟩)⟩)⟩)⟩)⟩)⟩)⟩)⟩)⟩)⟩)⟩)⟩)⟩)⟩)⟩)⟩)⟩)⟩)⟩)⟩)⟩)⟩)⟩)⟩)⟩)⟩)⟩)⟩)⟩)⟩)⟩)⟩)⟩)⟩)⟩)⟩)⟩)⟩)⟩)⟩)⟩)⟩)⟩)⟩)⟩)⟩)⟩)⟩)⟩)⟩)⟩)⟩)⟩)⟩)⟩)⟩)⟩)⟩)⟩)⟩)⟩)⟩)⟩)⟩)⟩)⟩)⟩)⟩)⟩)⟩)⟩)⟩)⟩)⟩)⟩)⟩)⟩)⟩)⟩)⟩)⟩)⟩)⟩)⟩)⟩)⟩)⟩)⟩)⟩)⟩)⟩)⟩)⟩)⟩)⟩)⟩)⟩)⟩)⟩)⟩)⟩)⟩)⟩)⟩)⟩)⟩)⟩)⟩)⟩)⟩)⟩)⟩)⟩)⟩)⟩)⟩)⟩)⟩)⟩)⟩)⟩)⟩)⟩)⟩)⟩)⟩)⟩)⟩)⟩)⟩)⟩)⟩)⟩)⟩)⟩)⟩)⟩)⟩)⟩)⟩)⟩)⟩)⟩)⟩)⟩)⟩)⟩)⟩)⟩)⟩)⟩)⟩)⟩)⟩)⟩)⟩)⟩)⟩)⟩)⟩)⟩)⟩)⟩)⟩)⟩)⟩)⟩)⟩)⟩)⟩)⟩)⟩)⟩)⟩)⟩)⟩)⟩)⟩)⟩)⟩)⟩)⟩)⟩)⟩)⟩)⟩)⟩)⟩)⟩)⟩)⟩)⟩)⟩)⟩)⟩)⟩)⟩)⟩)⟩)⟩)⟩)⟩)⟩)⟩)⟩)⟩)⟩)⟩)⟩)⟩)⟩)⟩)⟩)⟩)⟩)⟩)⟩)⟩)⟩)⟩)⟩)⟩)⟩)⟩)⟩)⟩)⟩)⟩)⟩)⟩)⟩)⟩)⟩)⟩)⟩)⟩)⟩)⟩)⟩)⟩)⟩)⟩)⟩)⟩)⟩)⟩)⟩)⟩)⟩)⟩)⟩)⟩)⟩)⟩)⟩)⟩)⟩)⟩)⟩)⟩)⟩)⟩)⟩)⟩)⟩)⟩)⟩)⟩)⟩)⟩)⟩)⟩)⟩)⟩)⟩)⟩)⟩)⟩)⟩)⟩)⟩)⟩)⟩)⟩)⟩)⟩)⟩)⟩)⟩)⟩)⟩)⟩)⟩)⟩)⟩)⟩)⟩)⟩)⟩)⟩)⟩)⟩)⟩)⟩)⟩)⟩)⟩)⟩)⟩)⟩)⟩)⟩)⟩)⟩)⟩)⟩)⟩)⟩)⟩)⟩)⟩)⟩)⟩)⟩)⟩)⟩)⟩)⟩)⟩)⟩)⟩)⟩)⟩)⟩)⟩)⟩)⟩)⟩)⟩)⟩)⟩)⟩)⟩)⟩)⟩)⟩)⟩)⟩)⟩)⟩)⟩)⟩)⟩)⟩)⟩)⟩)⟩)⟩)⟩)⟩)⟩)⟩)⟩)⟩)⟩)⟩)⟩)⟩)⟩)⟩)⟩)⟩)⟩)⟩)⟩)⟩)⟩)⟩)⟩)⟩)⟩)⟩)⟩)⟩)⟩)⟩)⟩)⟩)⟩)⟩)⟩)⟩)⟩)⟩)⟩)⟩)⟩)⟩)⟩)⟩)⟩)⟩)⟩)⟩)⟩)⟩)⟩)⟩)⟩)⟩)⟩)⟩)⟩)⟩)⟩)⟩)⟩)⟩)
theorem ck_L_d_0 : ∀ alt ∈ cq_L_0.2.2.2, rf_run nm_cl nm_ct en_xs 8 xx_L kc_L cu_L po_L (some .boolean) 1 0 98 16364 (some cq_L_0.2.2.1) 5000 true cq_L_0.1 alt = true := by
  have e1 : cq_L_0.2.2.2 = al_L_0 := by dsimp only [cq_L_0]
  have e2 : cq_L_0.2.2.1 = mu_L_0 := by dsimp only [cq_L_0]
  have e3 : cq_L_0.1 = 16 := by dsimp only [cq_L_0]
  rw [e1, e2, e3]
  exact rf_pcs (l := al_L_0) 1 ck_L_c_0 (List.isEmpty_iff.mp ck_L_n_0)
theorem ck_L_d_1 : ∀ alt ∈ cq_L_1.2.2.2, rf_run nm_cl nm_ct en_xs 8 xx_L kc_L cu_L po_L (some .boolean) 1 0 98 16364 (some cq_L_1.2.2.1) 5000 true cq_L_1.1 alt = true := by
  have e1 : cq_L_1.2.2.2 = al_L_1 := by dsimp only [cq_L_1]
  have e2 : cq_L_1.2.2.1 = mu_L_1 := by dsimp only [cq_L_1]
  have e3 : cq_L_1.1 = 18 := by dsimp only [cq_L_1]
  rw [e1, e2, e3]
  exact rf_pcs (l := al_L_1) 1 ck_L_c_1 (List.isEmpty_iff.mp ck_L_n_1)
theorem ck_L_d_2 : ∀ alt ∈ cq_L_2.2.2.2, rf_run nm_cl nm_ct en_xs 8 xx_L kc_L cu_L po_L (some .boolean) 1 0 98 16364 (some cq_L_2.2.2.1) 5000 true cq_L_2.1 alt = true := by
  have e1 : cq_L_2.2.2.2 = al_L_2 := by dsimp only [cq_L_2]
  have e2 : cq_L_2.2.2.1 = mu_L_2 := by dsimp only [cq_L_2]
  have e3 : cq_L_2.1 = 204 := by dsimp only [cq_L_2]
  rw [e1, e2, e3]
  exact rf_pcs (l := al_L_2) 1 ck_L_c_2 (List.isEmpty_iff.mp ck_L_n_2)
theorem ck_L_d_3 : ∀ alt ∈ cq_L_3.2.2.2, rf_run nm_cl nm_ct en_xs 8 xx_L kc_L cu_L po_L (some .boolean) 1 0 98 16364 (some cq_L_3.2.2.1) 5000 true cq_L_3.1 alt = true := by
  have e1 : cq_L_3.2.2.2 = al_L_3 := by dsimp only [cq_L_3]
  have e2 : cq_L_3.2.2.1 = mu_L_3 := by dsimp only [cq_L_3]
  have e3 : cq_L_3.1 = 233 := by dsimp only [cq_L_3]
  rw [e1, e2, e3]
  exact rf_pcs (l := al_L_3) 1 ck_L_c_3 (List.isEmpty_iff.mp ck_L_n_3)
theorem ck_L_d_4 : ∀ alt ∈ cq_L_4.2.2.2, rf_run nm_cl nm_ct en_xs 8 xx_L kc_L cu_L po_L (some .boolean) 1 0 98 16364 (some cq_L_4.2.2.1) 5000 true cq_L_4.1 alt = true := by
  have e1 : cq_L_4.2.2.2 = al_L_4 := by dsimp only [cq_L_4]
  have e2 : cq_L_4.2.2.1 = mu_L_4 := by dsimp only [cq_L_4]
  have e3 : cq_L_4.1 = 233 := by dsimp only [cq_L_4]
  rw [e1, e2, e3]
  exact rf_pcs (l := al_L_4) 1 ck_L_c_4 (List.isEmpty_iff.mp ck_L_n_4)
theorem ck_L_d_5 : ∀ alt ∈ cq_L_5.2.2.2, rf_run nm_cl nm_ct en_xs 8 xx_L kc_L cu_L po_L (some .boolean) 1 0 98 16364 (some cq_L_5.2.2.1) 5000 true cq_L_5.1 alt = true := by
  have e1 : cq_L_5.2.2.2 = al_L_5 := by dsimp only [cq_L_5]
  have e2 : cq_L_5.2.2.1 = mu_L_5 := by dsimp only [cq_L_5]
  have e3 : cq_L_5.1 = 233 := by dsimp only [cq_L_5]
  rw [e1, e2, e3]
  exact rf_pcs (l := al_L_5) 1 ck_L_c_5 (List.isEmpty_iff.mp ck_L_n_5)
theorem ck_L_d_6 : ∀ alt ∈ cq_L_6.2.2.2, rf_run nm_cl nm_ct en_xs 8 xx_L kc_L cu_L po_L (some .boolean) 1 0 98 16364 (some cq_L_6.2.2.1) 5000 true cq_L_6.1 alt = true := by
  have e1 : cq_L_6.2.2.2 = al_L_6 := by dsimp only [cq_L_6]
  have e2 : cq_L_6.2.2.1 = mu_L_6 := by dsimp only [cq_L_6]
  have e3 : cq_L_6.1 = 233 := by dsimp only [cq_L_6]
  rw [e1, e2, e3]
  exact rf_pcs (l := al_L_6) 1 ck_L_c_6 (List.isEmpty_iff.mp ck_L_n_6)
theorem ck_L_d_7 : ∀ alt ∈ cq_L_7.2.2.2, rf_run nm_cl nm_ct en_xs 8 xx_L kc_L cu_L po_L (some .boolean) 1 0 98 16364 (some cq_L_7.2.2.1) 5000 true cq_L_7.1 alt = true := by
  have e1 : cq_L_7.2.2.2 = al_L_7 := by dsimp only [cq_L_7]
  have e2 : cq_L_7.2.2.1 = mu_L_7 := by dsimp only [cq_L_7]
  have e3 : cq_L_7.1 = 233 := by dsimp only [cq_L_7]
  rw [e1, e2, e3]
  exact rf_pcs (l := al_L_7) 0 ck_L_c_7 (List.isEmpty_iff.mp ck_L_n_7)
theorem ck_L_d_8 : ∀ alt ∈ cq_L_8.2.2.2, rf_run nm_cl nm_ct en_xs 8 xx_L kc_L cu_L po_L (some .boolean) 1 0 98 16364 (some cq_L_8.2.2.1) 5000 true cq_L_8.1 alt = true := by
  have e1 : cq_L_8.2.2.2 = al_L_8 := by dsimp only [cq_L_8]
  have e2 : cq_L_8.2.2.1 = mu_L_8 := by dsimp only [cq_L_8]
  have e3 : cq_L_8.1 = 233 := by dsimp only [cq_L_8]
  rw [e1, e2, e3]
  exact rf_pcs (l := al_L_8) 0 ck_L_c_8 (List.isEmpty_iff.mp ck_L_n_8)
theorem ck_L_d_9 : ∀ alt ∈ cq_L_9.2.2.2, rf_run nm_cl nm_ct en_xs 8 xx_L kc_L cu_L po_L (some .boolean) 1 0 98 16364 (some cq_L_9.2.2.1) 5000 true cq_L_9.1 alt = true := by
  have e1 : cq_L_9.2.2.2 = al_L_9 := by dsimp only [cq_L_9]
  have e2 : cq_L_9.2.2.1 = mu_L_9 := by dsimp only [cq_L_9]
  have e3 : cq_L_9.1 = 233 := by dsimp only [cq_L_9]
  rw [e1, e2, e3]
  exact rf_pcs (l := al_L_9) 1 ck_L_c_9 (List.isEmpty_iff.mp ck_L_n_9)
theorem ck_L_d_10 : ∀ alt ∈ cq_L_10.2.2.2, rf_run nm_cl nm_ct en_xs 8 xx_L kc_L cu_L po_L (some .boolean) 1 0 98 16364 (some cq_L_10.2.2.1) 5000 true cq_L_10.1 alt = true := by
  have e1 : cq_L_10.2.2.2 = al_L_10 := by dsimp only [cq_L_10]
  have e2 : cq_L_10.2.2.1 = mu_L_10 := by dsimp only [cq_L_10]
  have e3 : cq_L_10.1 = 233 := by dsimp only [cq_L_10]
  rw [e1, e2, e3]
  exact rf_pcs (l := al_L_10) 1 ck_L_c_10 (List.isEmpty_iff.mp ck_L_n_10)
theorem ck_L_d_11 : ∀ alt ∈ cq_L_11.2.2.2, rf_run nm_cl nm_ct en_xs 8 xx_L kc_L cu_L po_L (some .boolean) 1 0 98 16364 (some cq_L_11.2.2.1) 5000 true cq_L_11.1 alt = true := by
  have e1 : cq_L_11.2.2.2 = al_L_11 := by dsimp only [cq_L_11]
  have e2 : cq_L_11.2.2.1 = mu_L_11 := by dsimp only [cq_L_11]
  have e3 : cq_L_11.1 = 237 := by dsimp only [cq_L_11]
  rw [e1, e2, e3]
  exact rf_pcs (l := al_L_11) 1 ck_L_c_11 (List.isEmpty_iff.mp ck_L_n_11)
theorem ck_L_d_12 : ∀ alt ∈ cq_L_12.2.2.2, rf_run nm_cl nm_ct en_xs 8 xx_L kc_L cu_L po_L (some .boolean) 1 0 98 16364 (some cq_L_12.2.2.1) 5000 true cq_L_12.1 alt = true := by
  have e1 : cq_L_12.2.2.2 = al_L_12 := by dsimp only [cq_L_12]
  have e2 : cq_L_12.2.2.1 = mu_L_12 := by dsimp only [cq_L_12]
  have e3 : cq_L_12.1 = 276 := by dsimp only [cq_L_12]
  rw [e1, e2, e3]
  exact rf_pcs (l := al_L_12) 1 ck_L_c_12 (List.isEmpty_iff.mp ck_L_n_12)
theorem ck_L_d_13 : ∀ alt ∈ cq_L_13.2.2.2, rf_run nm_cl nm_ct en_xs 8 xx_L kc_L cu_L po_L (some .boolean) 1 0 98 16364 (some cq_L_13.2.2.1) 5000 true cq_L_13.1 alt = true := by
  have e1 : cq_L_13.2.2.2 = al_L_13 := by dsimp only [cq_L_13]
  have e2 : cq_L_13.2.2.1 = mu_L_13 := by dsimp only [cq_L_13]
  have e3 : cq_L_13.1 = 276 := by dsimp only [cq_L_13]
  rw [e1, e2, e3]
  exact rf_pcs (l := al_L_13) 1 ck_L_c_13 (List.isEmpty_iff.mp ck_L_n_13)
theorem ck_L_d_14 : ∀ alt ∈ cq_L_14.2.2.2, rf_run nm_cl nm_ct en_xs 8 xx_L kc_L cu_L po_L (some .boolean) 1 0 98 16364 (some cq_L_14.2.2.1) 5000 true cq_L_14.1 alt = true := by
  have e1 : cq_L_14.2.2.2 = al_L_14 := by dsimp only [cq_L_14]
  have e2 : cq_L_14.2.2.1 = mu_L_14 := by dsimp only [cq_L_14]
  have e3 : cq_L_14.1 = 276 := by dsimp only [cq_L_14]
  rw [e1, e2, e3]
  exact rf_pcs (l := al_L_14) 1 ck_L_c_14 (List.isEmpty_iff.mp ck_L_n_14)
theorem ck_L_d_15 : ∀ alt ∈ cq_L_15.2.2.2, rf_run nm_cl nm_ct en_xs 8 xx_L kc_L cu_L po_L (some .boolean) 1 0 98 16364 (some cq_L_15.2.2.1) 5000 true cq_L_15.1 alt = true := by
  have e1 : cq_L_15.2.2.2 = al_L_15 := by dsimp only [cq_L_15]
  have e2 : cq_L_15.2.2.1 = mu_L_15 := by dsimp only [cq_L_15]
  have e3 : cq_L_15.1 = 276 := by dsimp only [cq_L_15]
  rw [e1, e2, e3]
  exact rf_pcs (l := al_L_15) 1 ck_L_c_15 (List.isEmpty_iff.mp ck_L_n_15)
theorem ck_L_d_16 : ∀ alt ∈ cq_L_16.2.2.2, rf_run nm_cl nm_ct en_xs 8 xx_L kc_L cu_L po_L (some .boolean) 1 0 98 16364 (some cq_L_16.2.2.1) 5000 true cq_L_16.1 alt = true := by
  have e1 : cq_L_16.2.2.2 = al_L_16 := by dsimp only [cq_L_16]
  have e2 : cq_L_16.2.2.1 = mu_L_16 := by dsimp only [cq_L_16]
  have e3 : cq_L_16.1 = 276 := by dsimp only [cq_L_16]
  rw [e1, e2, e3]
  exact rf_pcs (l := al_L_16) 1 ck_L_c_16 (List.isEmpty_iff.mp ck_L_n_16)
theorem ck_L_d_17 : ∀ alt ∈ cq_L_17.2.2.2, rf_run nm_cl nm_ct en_xs 8 xx_L kc_L cu_L po_L (some .boolean) 1 0 98 16364 (some cq_L_17.2.2.1) 5000 true cq_L_17.1 alt = true := by
  have e1 : cq_L_17.2.2.2 = al_L_17 := by dsimp only [cq_L_17]
  have e2 : cq_L_17.2.2.1 = mu_L_17 := by dsimp only [cq_L_17]
  have e3 : cq_L_17.1 = 276 := by dsimp only [cq_L_17]
  rw [e1, e2, e3]
  exact rf_pcs (l := al_L_17) 1 ck_L_c_17 (List.isEmpty_iff.mp ck_L_n_17)
theorem ck_L_d_18 : ∀ alt ∈ cq_L_18.2.2.2, rf_run nm_cl nm_ct en_xs 8 xx_L kc_L cu_L po_L (some .boolean) 1 0 98 16364 (some cq_L_18.2.2.1) 5000 true cq_L_18.1 alt = true := by
  have e1 : cq_L_18.2.2.2 = al_L_18 := by dsimp only [cq_L_18]
  have e2 : cq_L_18.2.2.1 = mu_L_18 := by dsimp only [cq_L_18]
  have e3 : cq_L_18.1 = 276 := by dsimp only [cq_L_18]
  rw [e1, e2, e3]
  exact rf_pcs (l := al_L_18) 1 ck_L_c_18 (List.isEmpty_iff.mp ck_L_n_18)
theorem ck_L_d_19 : ∀ alt ∈ cq_L_19.2.2.2, rf_run nm_cl nm_ct en_xs 8 xx_L kc_L cu_L po_L (some .boolean) 1 0 98 16364 (some cq_L_19.2.2.1) 5000 true cq_L_19.1 alt = true := by
  have e1 : cq_L_19.2.2.2 = al_L_19 := by dsimp only [cq_L_19]
  have e2 : cq_L_19.2.2.1 = mu_L_19 := by dsimp only [cq_L_19]
  have e3 : cq_L_19.1 = 276 := by dsimp only [cq_L_19]
  rw [e1, e2, e3]
  exact rf_pcs (l := al_L_19) 1 ck_L_c_19 (List.isEmpty_iff.mp ck_L_n_19)
theorem ck_L_d_20 : ∀ alt ∈ cq_L_20.2.2.2, rf_run nm_cl nm_ct en_xs 8 xx_L kc_L cu_L po_L (some .boolean) 1 0 98 16364 (some cq_L_20.2.2.1) 5000 true cq_L_20.1 alt = true := by
  have e1 : cq_L_20.2.2.2 = al_L_20 := by dsimp only [cq_L_20]
  have e2 : cq_L_20.2.2.1 = mu_L_20 := by dsimp only [cq_L_20]
  have e3 : cq_L_20.1 = 276 := by dsimp only [cq_L_20]
  rw [e1, e2, e3]
  exact rf_pcs (l := al_L_20) 1 ck_L_c_20 (List.isEmpty_iff.mp ck_L_n_20)
theorem ck_L_d_21 : ∀ alt ∈ cq_L_21.2.2.2, rf_run nm_cl nm_ct en_xs 8 xx_L kc_L cu_L po_L (some .boolean) 1 0 98 16364 (some cq_L_21.2.2.1) 5000 true cq_L_21.1 alt = true := by
  have e1 : cq_L_21.2.2.2 = al_L_21 := by dsimp only [cq_L_21]
  have e2 : cq_L_21.2.2.1 = mu_L_21 := by dsimp only [cq_L_21]
  have e3 : cq_L_21.1 = 280 := by dsimp only [cq_L_21]
  rw [e1, e2, e3]
  exact rf_pcs (l := al_L_21) 1 ck_L_c_21 (List.isEmpty_iff.mp ck_L_n_21)
theorem ck_L_d_22 : ∀ alt ∈ cq_L_22.2.2.2, rf_run nm_cl nm_ct en_xs 8 xx_L kc_L cu_L po_L (some .boolean) 1 0 98 16364 (some cq_L_22.2.2.1) 5000 true cq_L_22.1 alt = true := by
  have e1 : cq_L_22.2.2.2 = al_L_22 := by dsimp only [cq_L_22]
  have e2 : cq_L_22.2.2.1 = mu_L_22 := by dsimp only [cq_L_22]
  have e3 : cq_L_22.1 = 299 := by dsimp only [cq_L_22]
  rw [e1, e2, e3]
  exact rf_pcs (l := al_L_22) 1 ck_L_c_22 (List.isEmpty_iff.mp ck_L_n_22)
theorem ck_L_d_23 : ∀ alt ∈ cq_L_23.2.2.2, rf_run nm_cl nm_ct en_xs 8 xx_L kc_L cu_L po_L (some .boolean) 1 0 98 16364 (some cq_L_23.2.2.1) 5000 true cq_L_23.1 alt = true := by
  have e1 : cq_L_23.2.2.2 = al_L_23 := by dsimp only [cq_L_23]
  have e2 : cq_L_23.2.2.1 = mu_L_23 := by dsimp only [cq_L_23]
  have e3 : cq_L_23.1 = 299 := by dsimp only [cq_L_23]
  rw [e1, e2, e3]
  exact rf_pcs (l := al_L_23) 1 ck_L_c_23 (List.isEmpty_iff.mp ck_L_n_23)
theorem ck_L_d_24 : ∀ alt ∈ cq_L_24.2.2.2, rf_run nm_cl nm_ct en_xs 8 xx_L kc_L cu_L po_L (some .boolean) 1 0 98 16364 (some cq_L_24.2.2.1) 5000 true cq_L_24.1 alt = true := by
  have e1 : cq_L_24.2.2.2 = al_L_24 := by dsimp only [cq_L_24]
  have e2 : cq_L_24.2.2.1 = mu_L_24 := by dsimp only [cq_L_24]
  have e3 : cq_L_24.1 = 299 := by dsimp only [cq_L_24]
  rw [e1, e2, e3]
  exact rf_pcs (l := al_L_24) 1 ck_L_c_24 (List.isEmpty_iff.mp ck_L_n_24)
theorem ck_L_d_25 : ∀ alt ∈ cq_L_25.2.2.2, rf_run nm_cl nm_ct en_xs 8 xx_L kc_L cu_L po_L (some .boolean) 1 0 98 16364 (some cq_L_25.2.2.1) 5000 true cq_L_25.1 alt = true := by
  have e1 : cq_L_25.2.2.2 = al_L_25 := by dsimp only [cq_L_25]
  have e2 : cq_L_25.2.2.1 = mu_L_25 := by dsimp only [cq_L_25]
  have e3 : cq_L_25.1 = 299 := by dsimp only [cq_L_25]
  rw [e1, e2, e3]
  exact rf_pcs (l := al_L_25) 1 ck_L_c_25 (List.isEmpty_iff.mp ck_L_n_25)
theorem ck_L_d_26 : ∀ alt ∈ cq_L_26.2.2.2, rf_run nm_cl nm_ct en_xs 8 xx_L kc_L cu_L po_L (some .boolean) 1 0 98 16364 (some cq_L_26.2.2.1) 5000 true cq_L_26.1 alt = true := by
  have e1 : cq_L_26.2.2.2 = al_L_26 := by dsimp only [cq_L_26]
  have e2 : cq_L_26.2.2.1 = mu_L_26 := by dsimp only [cq_L_26]
  have e3 : cq_L_26.1 = 299 := by dsimp only [cq_L_26]
  rw [e1, e2, e3]
  exact rf_pcs (l := al_L_26) 1 ck_L_c_26 (List.isEmpty_iff.mp ck_L_n_26)
theorem ck_L_d_27 : ∀ alt ∈ cq_L_27.2.2.2, rf_run nm_cl nm_ct en_xs 8 xx_L kc_L cu_L po_L (some .boolean) 1 0 98 16364 (some cq_L_27.2.2.1) 5000 true cq_L_27.1 alt = true := by
  have e1 : cq_L_27.2.2.2 = al_L_27 := by dsimp only [cq_L_27]
  have e2 : cq_L_27.2.2.1 = mu_L_27 := by dsimp only [cq_L_27]
  have e3 : cq_L_27.1 = 299 := by dsimp only [cq_L_27]
  rw [e1, e2, e3]
  exact rf_pcs (l := al_L_27) 1 ck_L_c_27 (List.isEmpty_iff.mp ck_L_n_27)
theorem ck_L_d_28 : ∀ alt ∈ cq_L_28.2.2.2, rf_run nm_cl nm_ct en_xs 8 xx_L kc_L cu_L po_L (some .boolean) 1 0 98 16364 (some cq_L_28.2.2.1) 5000 true cq_L_28.1 alt = true := by
  have e1 : cq_L_28.2.2.2 = al_L_28 := by dsimp only [cq_L_28]
  have e2 : cq_L_28.2.2.1 = mu_L_28 := by dsimp only [cq_L_28]
  have e3 : cq_L_28.1 = 299 := by dsimp only [cq_L_28]
  rw [e1, e2, e3]
  exact rf_pcs (l := al_L_28) 1 ck_L_c_28 (List.isEmpty_iff.mp ck_L_n_28)
theorem ck_L_d_29 : ∀ alt ∈ cq_L_29.2.2.2, rf_run nm_cl nm_ct en_xs 8 xx_L kc_L cu_L po_L (some .boolean) 1 0 98 16364 (some cq_L_29.2.2.1) 5000 true cq_L_29.1 alt = true := by
  have e1 : cq_L_29.2.2.2 = al_L_29 := by dsimp only [cq_L_29]
  have e2 : cq_L_29.2.2.1 = mu_L_29 := by dsimp only [cq_L_29]
  have e3 : cq_L_29.1 = 319 := by dsimp only [cq_L_29]
  rw [e1, e2, e3]
  exact rf_pcs (l := al_L_29) 1 ck_L_c_29 (List.isEmpty_iff.mp ck_L_n_29)
theorem ck_L_d_30 : ∀ alt ∈ cq_L_30.2.2.2, rf_run nm_cl nm_ct en_xs 8 xx_L kc_L cu_L po_L (some .boolean) 1 0 98 16364 (some cq_L_30.2.2.1) 5000 true cq_L_30.1 alt = true := by
  have e1 : cq_L_30.2.2.2 = al_L_30 := by dsimp only [cq_L_30]
  have e2 : cq_L_30.2.2.1 = mu_L_30 := by dsimp only [cq_L_30]
  have e3 : cq_L_30.1 = 319 := by dsimp only [cq_L_30]
  rw [e1, e2, e3]
  exact rf_pcs (l := al_L_30) 0 ck_L_c_30 (List.isEmpty_iff.mp ck_L_n_30)
theorem ck_L_d_31 : ∀ alt ∈ cq_L_31.2.2.2, rf_run nm_cl nm_ct en_xs 8 xx_L kc_L cu_L po_L (some .boolean) 1 0 98 16364 (some cq_L_31.2.2.1) 5000 true cq_L_31.1 alt = true := by
  have e1 : cq_L_31.2.2.2 = al_L_31 := by dsimp only [cq_L_31]
  have e2 : cq_L_31.2.2.1 = mu_L_31 := by dsimp only [cq_L_31]
  have e3 : cq_L_31.1 = 319 := by dsimp only [cq_L_31]
  rw [e1, e2, e3]
  exact rf_pcs (l := al_L_31) 0 ck_L_c_31 (List.isEmpty_iff.mp ck_L_n_31)
theorem ck_L_d_32 : ∀ alt ∈ cq_L_32.2.2.2, rf_run nm_cl nm_ct en_xs 8 xx_L kc_L cu_L po_L (some .boolean) 1 0 98 16364 (some cq_L_32.2.2.1) 5000 true cq_L_32.1 alt = true := by
  have e1 : cq_L_32.2.2.2 = al_L_32 := by dsimp only [cq_L_32]
  have e2 : cq_L_32.2.2.1 = mu_L_32 := by dsimp only [cq_L_32]
  have e3 : cq_L_32.1 = 319 := by dsimp only [cq_L_32]
  rw [e1, e2, e3]
  exact rf_pcs (l := al_L_32) 1 ck_L_c_32 (List.isEmpty_iff.mp ck_L_n_32)
theorem ck_L_d_33 : ∀ alt ∈ cq_L_33.2.2.2, rf_run nm_cl nm_ct en_xs 8 xx_L kc_L cu_L po_L (some .boolean) 1 0 98 16364 (some cq_L_33.2.2.1) 5000 true cq_L_33.1 alt = true := by
  have e1 : cq_L_33.2.2.2 = al_L_33 := by dsimp only [cq_L_33]
  have e2 : cq_L_33.2.2.1 = mu_L_33 := by dsimp only [cq_L_33]
  have e3 : cq_L_33.1 = 319 := by dsimp only [cq_L_33]
  rw [e1, e2, e3]
  exact rf_pcs (l := al_L_33) 0 ck_L_c_33 (List.isEmpty_iff.mp ck_L_n_33)
theorem ck_L_d_34 : ∀ alt ∈ cq_L_34.2.2.2, rf_run nm_cl nm_ct en_xs 8 xx_L kc_L cu_L po_L (some .boolean) 1 0 98 16364 (some cq_L_34.2.2.1) 5000 true cq_L_34.1 alt = true := by
  have e1 : cq_L_34.2.2.2 = al_L_34 := by dsimp only [cq_L_34]
  have e2 : cq_L_34.2.2.1 = mu_L_34 := by dsimp only [cq_L_34]
  have e3 : cq_L_34.1 = 319 := by dsimp only [cq_L_34]
  rw [e1, e2, e3]
  exact rf_pcs (l := al_L_34) 0 ck_L_c_34 (List.isEmpty_iff.mp ck_L_n_34)
theorem ck_L_d_35 : ∀ alt ∈ cq_L_35.2.2.2, rf_run nm_cl nm_ct en_xs 8 xx_L kc_L cu_L po_L (some .boolean) 1 0 98 16364 (some cq_L_35.2.2.1) 5000 true cq_L_35.1 alt = true := by
  have e1 : cq_L_35.2.2.2 = al_L_35 := by dsimp only [cq_L_35]
  have e2 : cq_L_35.2.2.1 = mu_L_35 := by dsimp only [cq_L_35]
  have e3 : cq_L_35.1 = 319 := by dsimp only [cq_L_35]
  rw [e1, e2, e3]
  exact rf_pcs (l := al_L_35) 0 ck_L_c_35 (List.isEmpty_iff.mp ck_L_n_35)
theorem ck_L_d_36 : ∀ alt ∈ cq_L_36.2.2.2, rf_run nm_cl nm_ct en_xs 8 xx_L kc_L cu_L po_L (some .boolean) 1 0 98 16364 (some cq_L_36.2.2.1) 5000 true cq_L_36.1 alt = true := by
  have e1 : cq_L_36.2.2.2 = al_L_36 := by dsimp only [cq_L_36]
  have e2 : cq_L_36.2.2.1 = mu_L_36 := by dsimp only [cq_L_36]
  have e3 : cq_L_36.1 = 319 := by dsimp only [cq_L_36]
  rw [e1, e2, e3]
  exact rf_pcs (l := al_L_36) 0 ck_L_c_36 (List.isEmpty_iff.mp ck_L_n_36)
theorem ck_L_d_37 : ∀ alt ∈ cq_L_37.2.2.2, rf_run nm_cl nm_ct en_xs 8 xx_L kc_L cu_L po_L (some .boolean) 1 0 98 16364 (some cq_L_37.2.2.1) 5000 true cq_L_37.1 alt = true := by
  have e1 : cq_L_37.2.2.2 = al_L_37 := by dsimp only [cq_L_37]
  have e2 : cq_L_37.2.2.1 = mu_L_37 := by dsimp only [cq_L_37]
  have e3 : cq_L_37.1 = 319 := by dsimp only [cq_L_37]
  rw [e1, e2, e3]
  exact rf_pcs (l := al_L_37) 0 ck_L_c_37 (List.isEmpty_iff.mp ck_L_n_37)
theorem ck_L_d_38 : ∀ alt ∈ cq_L_38.2.2.2, rf_run nm_cl nm_ct en_xs 8 xx_L kc_L cu_L po_L (some .boolean) 1 0 98 16364 (some cq_L_38.2.2.1) 5000 true cq_L_38.1 alt = true := by
  have e1 : cq_L_38.2.2.2 = al_L_38 := by dsimp only [cq_L_38]
  have e2 : cq_L_38.2.2.1 = mu_L_38 := by dsimp only [cq_L_38]
  have e3 : cq_L_38.1 = 319 := by dsimp only [cq_L_38]
  rw [e1, e2, e3]
  exact rf_pcs (l := al_L_38) 0 ck_L_c_38 (List.isEmpty_iff.mp ck_L_n_38)
theorem ck_L_d_39 : ∀ alt ∈ cq_L_39.2.2.2, rf_run nm_cl nm_ct en_xs 8 xx_L kc_L cu_L po_L (some .boolean) 1 0 98 16364 (some cq_L_39.2.2.1) 5000 true cq_L_39.1 alt = true := by
  have e1 : cq_L_39.2.2.2 = al_L_39 := by dsimp only [cq_L_39]
  have e2 : cq_L_39.2.2.1 = mu_L_39 := by dsimp only [cq_L_39]
  have e3 : cq_L_39.1 = 319 := by dsimp only [cq_L_39]
  rw [e1, e2, e3]
  exact rf_pcs (l := al_L_39) 0 ck_L_c_39 (List.isEmpty_iff.mp ck_L_n_39)
theorem ck_L_d_40 : ∀ alt ∈ cq_L_40.2.2.2, rf_run nm_cl nm_ct en_xs 8 xx_L kc_L cu_L po_L (some .boolean) 1 0 98 16364 (some cq_L_40.2.2.1) 5000 true cq_L_40.1 alt = true := by
  have e1 : cq_L_40.2.2.2 = al_L_40 := by dsimp only [cq_L_40]
  have e2 : cq_L_40.2.2.1 = mu_L_40 := by dsimp only [cq_L_40]
  have e3 : cq_L_40.1 = 319 := by dsimp only [cq_L_40]
  rw [e1, e2, e3]
  exact rf_pcs (l := al_L_40) 0 ck_L_c_40 (List.isEmpty_iff.mp ck_L_n_40)
theorem ck_L_d_41 : ∀ alt ∈ cq_L_41.2.2.2, rf_run nm_cl nm_ct en_xs 8 xx_L kc_L cu_L po_L (some .boolean) 1 0 98 16364 (some cq_L_41.2.2.1) 5000 true cq_L_41.1 alt = true := by
  have e1 : cq_L_41.2.2.2 = al_L_41 := by dsimp only [cq_L_41]
  have e2 : cq_L_41.2.2.1 = mu_L_41 := by dsimp only [cq_L_41]
  have e3 : cq_L_41.1 = 319 := by dsimp only [cq_L_41]
  rw [e1, e2, e3]
  exact rf_pcs (l := al_L_41) 0 ck_L_c_41 (List.isEmpty_iff.mp ck_L_n_41)
theorem ck_L_d_42 : ∀ alt ∈ cq_L_42.2.2.2, rf_run nm_cl nm_ct en_xs 8 xx_L kc_L cu_L po_L (some .boolean) 1 0 98 16364 (some cq_L_42.2.2.1) 5000 true cq_L_42.1 alt = true := by
  have e1 : cq_L_42.2.2.2 = al_L_42 := by dsimp only [cq_L_42]
  have e2 : cq_L_42.2.2.1 = mu_L_42 := by dsimp only [cq_L_42]
  have e3 : cq_L_42.1 = 319 := by dsimp only [cq_L_42]
  rw [e1, e2, e3]
  exact rf_pcs (l := al_L_42) 0 ck_L_c_42 (List.isEmpty_iff.mp ck_L_n_42)
theorem ck_L_d_43 : ∀ alt ∈ cq_L_43.2.2.2, rf_run nm_cl nm_ct en_xs 8 xx_L kc_L cu_L po_L (some .boolean) 1 0 98 16364 (some cq_L_43.2.2.1) 5000 true cq_L_43.1 alt = true := by
  have e1 : cq_L_43.2.2.2 = al_L_43 := by dsimp only [cq_L_43]
  have e2 : cq_L_43.2.2.1 = mu_L_43 := by dsimp only [cq_L_43]
  have e3 : cq_L_43.1 = 319 := by dsimp only [cq_L_43]
  rw [e1, e2, e3]
  exact rf_pcs (l := al_L_43) 0 ck_L_c_43 (List.isEmpty_iff.mp ck_L_n_43)
theorem ck_L_d_44 : ∀ alt ∈ cq_L_44.2.2.2, rf_run nm_cl nm_ct en_xs 8 xx_L kc_L cu_L po_L (some .boolean) 1 0 98 16364 (some cq_L_44.2.2.1) 5000 true cq_L_44.1 alt = true := by
  have e1 : cq_L_44.2.2.2 = al_L_44 := by dsimp only [cq_L_44]
  have e2 : cq_L_44.2.2.1 = mu_L_44 := by dsimp only [cq_L_44]
  have e3 : cq_L_44.1 = 319 := by dsimp only [cq_L_44]
  rw [e1, e2, e3]
  exact rf_pcs (l := al_L_44) 0 ck_L_c_44 (List.isEmpty_iff.mp ck_L_n_44)
theorem ck_L_d_45 : ∀ alt ∈ cq_L_45.2.2.2, rf_run nm_cl nm_ct en_xs 8 xx_L kc_L cu_L po_L (some .boolean) 1 0 98 16364 (some cq_L_45.2.2.1) 5000 true cq_L_45.1 alt = true := by
  have e1 : cq_L_45.2.2.2 = al_L_45 := by dsimp only [cq_L_45]
  have e2 : cq_L_45.2.2.1 = mu_L_45 := by dsimp only [cq_L_45]
  have e3 : cq_L_45.1 = 319 := by dsimp only [cq_L_45]
  rw [e1, e2, e3]
  exact rf_pcs (l := al_L_45) 0 ck_L_c_45 (List.isEmpty_iff.mp ck_L_n_45)
theorem ck_L_d_46 : ∀ alt ∈ cq_L_46.2.2.2, rf_run nm_cl nm_ct en_xs 8 xx_L kc_L cu_L po_L (some .boolean) 1 0 98 16364 (some cq_L_46.2.2.1) 5000 true cq_L_46.1 alt = true := by
  have e1 : cq_L_46.2.2.2 = al_L_46 := by dsimp only [cq_L_46]
  have e2 : cq_L_46.2.2.1 = mu_L_46 := by dsimp only [cq_L_46]
  have e3 : cq_L_46.1 = 319 := by dsimp only [cq_L_46]
  rw [e1, e2, e3]
  exact rf_pcs (l := al_L_46) 0 ck_L_c_46 (List.isEmpty_iff.mp ck_L_n_46)
theorem ck_L_d_47 : ∀ alt ∈ cq_L_47.2.2.2, rf_run nm_cl nm_ct en_xs 8 xx_L kc_L cu_L po_L (some .boolean) 1 0 98 16364 (some cq_L_47.2.2.1) 5000 true cq_L_47.1 alt = true := by
  have e1 : cq_L_47.2.2.2 = al_L_47 := by dsimp only [cq_L_47]
  have e2 : cq_L_47.2.2.1 = mu_L_47 := by dsimp only [cq_L_47]
  have e3 : cq_L_47.1 = 319 := by dsimp only [cq_L_47]
  rw [e1, e2, e3]
  exact rf_pcs (l := al_L_47) 0 ck_L_c_47 (List.isEmpty_iff.mp ck_L_n_47)
theorem ck_L_d_48 : ∀ alt ∈ cq_L_48.2.2.2, rf_run nm_cl nm_ct en_xs 8 xx_L kc_L cu_L po_L (some .boolean) 1 0 98 16364 (some cq_L_48.2.2.1) 5000 true cq_L_48.1 alt = true := by
  have e1 : cq_L_48.2.2.2 = al_L_48 := by dsimp only [cq_L_48]
  have e2 : cq_L_48.2.2.1 = mu_L_48 := by dsimp only [cq_L_48]
  have e3 : cq_L_48.1 = 319 := by dsimp only [cq_L_48]
  rw [e1, e2, e3]
  exact rf_pcs (l := al_L_48) 1 ck_L_c_48 (List.isEmpty_iff.mp ck_L_n_48)
theorem ck_L_d_49 : ∀ alt ∈ cq_L_49.2.2.2, rf_run nm_cl nm_ct en_xs 8 xx_L kc_L cu_L po_L (some .boolean) 1 0 98 16364 (some cq_L_49.2.2.1) 5000 true cq_L_49.1 alt = true := by
  have e1 : cq_L_49.2.2.2 = al_L_49 := by dsimp only [cq_L_49]
  have e2 : cq_L_49.2.2.1 = mu_L_49 := by dsimp only [cq_L_49]
  have e3 : cq_L_49.1 = 319 := by dsimp only [cq_L_49]
  rw [e1, e2, e3]
  exact rf_pcs (l := al_L_49) 0 ck_L_c_49 (List.isEmpty_iff.mp ck_L_n_49)
theorem ck_L_d_50 : ∀ alt ∈ cq_L_50.2.2.2, rf_run nm_cl nm_ct en_xs 8 xx_L kc_L cu_L po_L (some .boolean) 1 0 98 16364 (some cq_L_50.2.2.1) 5000 true cq_L_50.1 alt = true := by
  have e1 : cq_L_50.2.2.2 = al_L_50 := by dsimp only [cq_L_50]
  have e2 : cq_L_50.2.2.1 = mu_L_50 := by dsimp only [cq_L_50]
  have e3 : cq_L_50.1 = 319 := by dsimp only [cq_L_50]
  rw [e1, e2, e3]
  exact rf_pcs (l := al_L_50) 0 ck_L_c_50 (List.isEmpty_iff.mp ck_L_n_50)
theorem ck_L_d_51 : ∀ alt ∈ cq_L_51.2.2.2, rf_run nm_cl nm_ct en_xs 8 xx_L kc_L cu_L po_L (some .boolean) 1 0 98 16364 (some cq_L_51.2.2.1) 5000 true cq_L_51.1 alt = true := by
  have e1 : cq_L_51.2.2.2 = al_L_51 := by dsimp only [cq_L_51]
  have e2 : cq_L_51.2.2.1 = mu_L_51 := by dsimp only [cq_L_51]
  have e3 : cq_L_51.1 = 319 := by dsimp only [cq_L_51]
  rw [e1, e2, e3]
  exact rf_pcs (l := al_L_51) 0 ck_L_c_51 (List.isEmpty_iff.mp ck_L_n_51)
theorem ck_L_d_52 : ∀ alt ∈ cq_L_52.2.2.2, rf_run nm_cl nm_ct en_xs 8 xx_L kc_L cu_L po_L (some .boolean) 1 0 98 16364 (some cq_L_52.2.2.1) 5000 true cq_L_52.1 alt = true := by
  have e1 : cq_L_52.2.2.2 = al_L_52 := by dsimp only [cq_L_52]
  have e2 : cq_L_52.2.2.1 = mu_L_52 := by dsimp only [cq_L_52]
  have e3 : cq_L_52.1 = 319 := by dsimp only [cq_L_52]
  rw [e1, e2, e3]
  exact rf_pcs (l := al_L_52) 1 ck_L_c_52 (List.isEmpty_iff.mp ck_L_n_52)
theorem ck_L_d_53 : ∀ alt ∈ cq_L_53.2.2.2, rf_run nm_cl nm_ct en_xs 8 xx_L kc_L cu_L po_L (some .boolean) 1 0 98 16364 (some cq_L_53.2.2.1) 5000 true cq_L_53.1 alt = true := by
  have e1 : cq_L_53.2.2.2 = al_L_53 := by dsimp only [cq_L_53]
  have e2 : cq_L_53.2.2.1 = mu_L_53 := by dsimp only [cq_L_53]
  have e3 : cq_L_53.1 = 319 := by dsimp only [cq_L_53]
  rw [e1, e2, e3]
  exact rf_pcs (l := al_L_53) 0 ck_L_c_53 (List.isEmpty_iff.mp ck_L_n_53)
theorem ck_L_d_54 : ∀ alt ∈ cq_L_54.2.2.2, rf_run nm_cl nm_ct en_xs 8 xx_L kc_L cu_L po_L (some .boolean) 1 0 98 16364 (some cq_L_54.2.2.1) 5000 true cq_L_54.1 alt = true := by
  have e1 : cq_L_54.2.2.2 = al_L_54 := by dsimp only [cq_L_54]
  have e2 : cq_L_54.2.2.1 = mu_L_54 := by dsimp only [cq_L_54]
  have e3 : cq_L_54.1 = 319 := by dsimp only [cq_L_54]
  rw [e1, e2, e3]
  exact rf_pcs (l := al_L_54) 1 ck_L_c_54 (List.isEmpty_iff.mp ck_L_n_54)
theorem ck_L_d_55 : ∀ alt ∈ cq_L_55.2.2.2, rf_run nm_cl nm_ct en_xs 8 xx_L kc_L cu_L po_L (some .boolean) 1 0 98 16364 (some cq_L_55.2.2.1) 5000 true cq_L_55.1 alt = true := by
  have e1 : cq_L_55.2.2.2 = al_L_55 := by dsimp only [cq_L_55]
  have e2 : cq_L_55.2.2.1 = mu_L_55 := by dsimp only [cq_L_55]
  have e3 : cq_L_55.1 = 319 := by dsimp only [cq_L_55]
  rw [e1, e2, e3]
  exact rf_pcs (l := al_L_55) 0 ck_L_c_55 (List.isEmpty_iff.mp ck_L_n_55)
theorem ck_L_d_56 : ∀ alt ∈ cq_L_56.2.2.2, rf_run nm_cl nm_ct en_xs 8 xx_L kc_L cu_L po_L (some .boolean) 1 0 98 16364 (some cq_L_56.2.2.1) 5000 true cq_L_56.1 alt = true := by
  have e1 : cq_L_56.2.2.2 = al_L_56 := by dsimp only [cq_L_56]
  have e2 : cq_L_56.2.2.1 = mu_L_56 := by dsimp only [cq_L_56]
  have e3 : cq_L_56.1 = 319 := by dsimp only [cq_L_56]
  rw [e1, e2, e3]
  exact rf_pcs (l := al_L_56) 0 ck_L_c_56 (List.isEmpty_iff.mp ck_L_n_56)
theorem ck_L_d_57 : ∀ alt ∈ cq_L_57.2.2.2, rf_run nm_cl nm_ct en_xs 8 xx_L kc_L cu_L po_L (some .boolean) 1 0 98 16364 (some cq_L_57.2.2.1) 5000 true cq_L_57.1 alt = true := by
  have e1 : cq_L_57.2.2.2 = al_L_57 := by dsimp only [cq_L_57]
  have e2 : cq_L_57.2.2.1 = mu_L_57 := by dsimp only [cq_L_57]
  have e3 : cq_L_57.1 = 319 := by dsimp only [cq_L_57]
  rw [e1, e2, e3]
  exact rf_pcs (l := al_L_57) 0 ck_L_c_57 (List.isEmpty_iff.mp ck_L_n_57)
theorem ck_L_d_58 : ∀ alt ∈ cq_L_58.2.2.2, rf_run nm_cl nm_ct en_xs 8 xx_L kc_L cu_L po_L (some .boolean) 1 0 98 16364 (some cq_L_58.2.2.1) 5000 true cq_L_58.1 alt = true := by
  have e1 : cq_L_58.2.2.2 = al_L_58 := by dsimp only [cq_L_58]
  have e2 : cq_L_58.2.2.1 = mu_L_58 := by dsimp only [cq_L_58]
  have e3 : cq_L_58.1 = 319 := by dsimp only [cq_L_58]
  rw [e1, e2, e3]
  exact rf_pcs (l := al_L_58) 0 ck_L_c_58 (List.isEmpty_iff.mp ck_L_n_58)
theorem ck_L_d_59 : ∀ alt ∈ cq_L_59.2.2.2, rf_run nm_cl nm_ct en_xs 8 xx_L kc_L cu_L po_L (some .boolean) 1 0 98 16364 (some cq_L_59.2.2.1) 5000 true cq_L_59.1 alt = true := by
  have e1 : cq_L_59.2.2.2 = al_L_59 := by dsimp only [cq_L_59]
  have e2 : cq_L_59.2.2.1 = mu_L_59 := by dsimp only [cq_L_59]
  have e3 : cq_L_59.1 = 319 := by dsimp only [cq_L_59]
  rw [e1, e2, e3]
  exact rf_pcs (l := al_L_59) 0 ck_L_c_59 (List.isEmpty_iff.mp ck_L_n_59)
theorem ck_L_d_60 : ∀ alt ∈ cq_L_60.2.2.2, rf_run nm_cl nm_ct en_xs 8 xx_L kc_L cu_L po_L (some .boolean) 1 0 98 16364 (some cq_L_60.2.2.1) 5000 true cq_L_60.1 alt = true := by
  have e1 : cq_L_60.2.2.2 = al_L_60 := by dsimp only [cq_L_60]
  have e2 : cq_L_60.2.2.1 = mu_L_60 := by dsimp only [cq_L_60]
  have e3 : cq_L_60.1 = 319 := by dsimp only [cq_L_60]
  rw [e1, e2, e3]
  exact rf_pcs (l := al_L_60) 0 ck_L_c_60 (List.isEmpty_iff.mp ck_L_n_60)
theorem ck_L_d_61 : ∀ alt ∈ cq_L_61.2.2.2, rf_run nm_cl nm_ct en_xs 8 xx_L kc_L cu_L po_L (some .boolean) 1 0 98 16364 (some cq_L_61.2.2.1) 5000 true cq_L_61.1 alt = true := by
  have e1 : cq_L_61.2.2.2 = al_L_61 := by dsimp only [cq_L_61]
  have e2 : cq_L_61.2.2.1 = mu_L_61 := by dsimp only [cq_L_61]
  have e3 : cq_L_61.1 = 319 := by dsimp only [cq_L_61]
  rw [e1, e2, e3]
  exact rf_pcs (l := al_L_61) 0 ck_L_c_61 (List.isEmpty_iff.mp ck_L_n_61)
theorem ck_L_d_62 : ∀ alt ∈ cq_L_62.2.2.2, rf_run nm_cl nm_ct en_xs 8 xx_L kc_L cu_L po_L (some .boolean) 1 0 98 16364 (some cq_L_62.2.2.1) 5000 true cq_L_62.1 alt = true := by
  have e1 : cq_L_62.2.2.2 = al_L_62 := by dsimp only [cq_L_62]
  have e2 : cq_L_62.2.2.1 = mu_L_62 := by dsimp only [cq_L_62]
  have e3 : cq_L_62.1 = 319 := by dsimp only [cq_L_62]
  rw [e1, e2, e3]
  exact rf_pcs (l := al_L_62) 1 ck_L_c_62 (List.isEmpty_iff.mp ck_L_n_62)
theorem ck_L_d_63 : ∀ alt ∈ cq_L_63.2.2.2, rf_run nm_cl nm_ct en_xs 8 xx_L kc_L cu_L po_L (some .boolean) 1 0 98 16364 (some cq_L_63.2.2.1) 5000 true cq_L_63.1 alt = true := by
  have e1 : cq_L_63.2.2.2 = al_L_63 := by dsimp only [cq_L_63]
  have e2 : cq_L_63.2.2.1 = mu_L_63 := by dsimp only [cq_L_63]
  have e3 : cq_L_63.1 = 319 := by dsimp only [cq_L_63]
  rw [e1, e2, e3]
  exact rf_pcs (l := al_L_63) 0 ck_L_c_63 (List.isEmpty_iff.mp ck_L_n_63)
theorem ck_L_d_64 : ∀ alt ∈ cq_L_64.2.2.2, rf_run nm_cl nm_ct en_xs 8 xx_L kc_L cu_L po_L (some .boolean) 1 0 98 16364 (some cq_L_64.2.2.1) 5000 true cq_L_64.1 alt = true := by
  have e1 : cq_L_64.2.2.2 = al_L_64 := by dsimp only [cq_L_64]
  have e2 : cq_L_64.2.2.1 = mu_L_64 := by dsimp only [cq_L_64]
  have e3 : cq_L_64.1 = 319 := by dsimp only [cq_L_64]
  rw [e1, e2, e3]
  exact rf_pcs (l := al_L_64) 0 ck_L_c_64 (List.isEmpty_iff.mp ck_L_n_64)
theorem ck_L_d_65 : ∀ alt ∈ cq_L_65.2.2.2, rf_run nm_cl nm_ct en_xs 8 xx_L kc_L cu_L po_L (some .boolean) 1 0 98 16364 (some cq_L_65.2.2.1) 5000 true cq_L_65.1 alt = true := by
  have e1 : cq_L_65.2.2.2 = al_L_65 := by dsimp only [cq_L_65]
  have e2 : cq_L_65.2.2.1 = mu_L_65 := by dsimp only [cq_L_65]
  have e3 : cq_L_65.1 = 319 := by dsimp only [cq_L_65]
  rw [e1, e2, e3]
  exact rf_pcs (l := al_L_65) 0 ck_L_c_65 (List.isEmpty_iff.mp ck_L_n_65)
theorem ck_L_d_66 : ∀ alt ∈ cq_L_66.2.2.2, rf_run nm_cl nm_ct en_xs 8 xx_L kc_L cu_L po_L (some .boolean) 1 0 98 16364 (some cq_L_66.2.2.1) 5000 true cq_L_66.1 alt = true := by
  have e1 : cq_L_66.2.2.2 = al_L_66 := by dsimp only [cq_L_66]
  have e2 : cq_L_66.2.2.1 = mu_L_66 := by dsimp only [cq_L_66]
  have e3 : cq_L_66.1 = 319 := by dsimp only [cq_L_66]
  rw [e1, e2, e3]
  exact rf_pcs (l := al_L_66) 0 ck_L_c_66 (List.isEmpty_iff.mp ck_L_n_66)
theorem ck_L_d_67 : ∀ alt ∈ cq_L_67.2.2.2, rf_run nm_cl nm_ct en_xs 8 xx_L kc_L cu_L po_L (some .boolean) 1 0 98 16364 (some cq_L_67.2.2.1) 5000 true cq_L_67.1 alt = true := by
  have e1 : cq_L_67.2.2.2 = al_L_67 := by dsimp only [cq_L_67]
  have e2 : cq_L_67.2.2.1 = mu_L_67 := by dsimp only [cq_L_67]
  have e3 : cq_L_67.1 = 319 := by dsimp only [cq_L_67]
  rw [e1, e2, e3]
  exact rf_pcs (l := al_L_67) 0 ck_L_c_67 (List.isEmpty_iff.mp ck_L_n_67)
theorem ck_L_d_68 : ∀ alt ∈ cq_L_68.2.2.2, rf_run nm_cl nm_ct en_xs 8 xx_L kc_L cu_L po_L (some .boolean) 1 0 98 16364 (some cq_L_68.2.2.1) 5000 true cq_L_68.1 alt = true := by
  have e1 : cq_L_68.2.2.2 = al_L_68 := by dsimp only [cq_L_68]
  have e2 : cq_L_68.2.2.1 = mu_L_68 := by dsimp only [cq_L_68]
  have e3 : cq_L_68.1 = 319 := by dsimp only [cq_L_68]
  rw [e1, e2, e3]
  exact rf_pcs (l := al_L_68) 1 ck_L_c_68 (List.isEmpty_iff.mp ck_L_n_68)
theorem ck_L_d_69 : ∀ alt ∈ cq_L_69.2.2.2, rf_run nm_cl nm_ct en_xs 8 xx_L kc_L cu_L po_L (some .boolean) 1 0 98 16364 (some cq_L_69.2.2.1) 5000 true cq_L_69.1 alt = true := by
  have e1 : cq_L_69.2.2.2 = al_L_69 := by dsimp only [cq_L_69]
  have e2 : cq_L_69.2.2.1 = mu_L_69 := by dsimp only [cq_L_69]
  have e3 : cq_L_69.1 = 319 := by dsimp only [cq_L_69]
  rw [e1, e2, e3]
  exact rf_pcs (l := al_L_69) 0 ck_L_c_69 (List.isEmpty_iff.mp ck_L_n_69)
theorem ck_L_d_70 : ∀ alt ∈ cq_L_70.2.2.2, rf_run nm_cl nm_ct en_xs 8 xx_L kc_L cu_L po_L (some .boolean) 1 0 98 16364 (some cq_L_70.2.2.1) 5000 true cq_L_70.1 alt = true := by
  have e1 : cq_L_70.2.2.2 = al_L_70 := by dsimp only [cq_L_70]
  have e2 : cq_L_70.2.2.1 = mu_L_70 := by dsimp only [cq_L_70]
  have e3 : cq_L_70.1 = 323 := by dsimp only [cq_L_70]
  rw [e1, e2, e3]
  exact rf_pcs (l := al_L_70) 1 ck_L_c_70 (List.isEmpty_iff.mp ck_L_n_70)
theorem ck_L_d_71 : ∀ alt ∈ cq_L_71.2.2.2, rf_run nm_cl nm_ct en_xs 8 xx_L kc_L cu_L po_L (some .boolean) 1 0 98 16364 (some cq_L_71.2.2.1) 5000 true cq_L_71.1 alt = true := by
  have e1 : cq_L_71.2.2.2 = al_L_71 := by dsimp only [cq_L_71]
  have e2 : cq_L_71.2.2.1 = mu_L_71 := by dsimp only [cq_L_71]
  have e3 : cq_L_71.1 = 356 := by dsimp only [cq_L_71]
  rw [e1, e2, e3]
  exact rf_pcs (l := al_L_71) 1 ck_L_c_71 (List.isEmpty_iff.mp ck_L_n_71)
theorem ck_L_d_72 : ∀ alt ∈ cq_L_72.2.2.2, rf_run nm_cl nm_ct en_xs 8 xx_L kc_L cu_L po_L (some .boolean) 1 0 98 16364 (some cq_L_72.2.2.1) 5000 true cq_L_72.1 alt = true := by
  have e1 : cq_L_72.2.2.2 = al_L_72 := by dsimp only [cq_L_72]
  have e2 : cq_L_72.2.2.1 = mu_L_72 := by dsimp only [cq_L_72]
  have e3 : cq_L_72.1 = 379 := by dsimp only [cq_L_72]
  rw [e1, e2, e3]
  exact rf_pcs (l := al_L_72) 1 ck_L_c_72 (List.isEmpty_iff.mp ck_L_n_72)
theorem ck_L_d_73 : ∀ alt ∈ cq_L_73.2.2.2, rf_run nm_cl nm_ct en_xs 8 xx_L kc_L cu_L po_L (some .boolean) 1 0 98 16364 (some cq_L_73.2.2.1) 5000 true cq_L_73.1 alt = true := by
  have e1 : cq_L_73.2.2.2 = al_L_73 := by dsimp only [cq_L_73]
  have e2 : cq_L_73.2.2.1 = mu_L_73 := by dsimp only [cq_L_73]
  have e3 : cq_L_73.1 = 392 := by dsimp only [cq_L_73]
  rw [e1, e2, e3]
  exact rf_pcs (l := al_L_73) 1 ck_L_c_73 (List.isEmpty_iff.mp ck_L_n_73)
theorem ck_L_d_74 : ∀ alt ∈ cq_L_74.2.2.2, rf_run nm_cl nm_ct en_xs 8 xx_L kc_L cu_L po_L (some .boolean) 1 0 98 16364 (some cq_L_74.2.2.1) 5000 true cq_L_74.1 alt = true := by
  have e1 : cq_L_74.2.2.2 = al_L_74 := by dsimp only [cq_L_74]
  have e2 : cq_L_74.2.2.1 = mu_L_74 := by dsimp only [cq_L_74]
  have e3 : cq_L_74.1 = 435 := by dsimp only [cq_L_74]
  rw [e1, e2, e3]
  exact rf_pcs (l := al_L_74) 1 ck_L_c_74 (List.isEmpty_iff.mp ck_L_n_74)
theorem ck_L_d_75 : ∀ alt ∈ cq_L_75.2.2.2, rf_run nm_cl nm_ct en_xs 8 xx_L kc_L cu_L po_L (some .boolean) 1 0 98 16364 (some cq_L_75.2.2.1) 5000 true cq_L_75.1 alt = true := by
  have e1 : cq_L_75.2.2.2 = al_L_75 := by dsimp only [cq_L_75]
  have e2 : cq_L_75.2.2.1 = mu_L_75 := by dsimp only [cq_L_75]
  have e3 : cq_L_75.1 = 468 := by dsimp only [cq_L_75]
  rw [e1, e2, e3]
  exact rf_pcs (l := al_L_75) 1 ck_L_c_75 (List.isEmpty_iff.mp ck_L_n_75)
theorem ck_L_d_76 : ∀ alt ∈ cq_L_76.2.2.2, rf_run nm_cl nm_ct en_xs 8 xx_L kc_L cu_L po_L (some .boolean) 1 0 98 16364 (some cq_L_76.2.2.1) 5000 true cq_L_76.1 alt = true := by
  have e1 : cq_L_76.2.2.2 = al_L_76 := by dsimp only [cq_L_76]
  have e2 : cq_L_76.2.2.1 = mu_L_76 := by dsimp only [cq_L_76]
  have e3 : cq_L_76.1 = 511 := by dsimp only [cq_L_76]
  rw [e1, e2, e3]
  exact rf_pcs (l := al_L_76) 1 ck_L_c_76 (List.isEmpty_iff.mp ck_L_n_76)
theorem ck_L_d_77 : ∀ alt ∈ cq_L_77.2.2.2, rf_run nm_cl nm_ct en_xs 8 xx_L kc_L cu_L po_L (some .boolean) 1 0 98 16364 (some cq_L_77.2.2.1) 5000 true cq_L_77.1 alt = true := by
  have e1 : cq_L_77.2.2.2 = al_L_77 := by dsimp only [cq_L_77]
  have e2 : cq_L_77.2.2.1 = mu_L_77 := by dsimp only [cq_L_77]
  have e3 : cq_L_77.1 = 534 := by dsimp only [cq_L_77]
  rw [e1, e2, e3]
  exact rf_pcs (l := al_L_77) 1 ck_L_c_77 (List.isEmpty_iff.mp ck_L_n_77)
theorem ck_L_d_78 : ∀ alt ∈ cq_L_78.2.2.2, rf_run nm_cl nm_ct en_xs 8 xx_L kc_L cu_L po_L (some .boolean) 1 0 98 16364 (some cq_L_78.2.2.1) 5000 true cq_L_78.1 alt = true := by
  have e1 : cq_L_78.2.2.2 = al_L_78 := by dsimp only [cq_L_78]
  have e2 : cq_L_78.2.2.1 = mu_L_78 := by dsimp only [cq_L_78]
  have e3 : cq_L_78.1 = 567 := by dsimp only [cq_L_78]
  rw [e1, e2, e3]
  exact rf_pcs (l := al_L_78) 1 ck_L_c_78 (List.isEmpty_iff.mp ck_L_n_78)
theorem ck_L_d_79 : ∀ alt ∈ cq_L_79.2.2.2, rf_run nm_cl nm_ct en_xs 8 xx_L kc_L cu_L po_L (some .boolean) 1 0 98 16364 (some cq_L_79.2.2.1) 5000 true cq_L_79.1 alt = true := by
  have e1 : cq_L_79.2.2.2 = al_L_79 := by dsimp only [cq_L_79]
  have e2 : cq_L_79.2.2.1 = mu_L_79 := by dsimp only [cq_L_79]
  have e3 : cq_L_79.1 = 610 := by dsimp only [cq_L_79]
  rw [e1, e2, e3]
  exact rf_pcs (l := al_L_79) 1 ck_L_c_79 (List.isEmpty_iff.mp ck_L_n_79)
theorem ck_L_d_80 : ∀ alt ∈ cq_L_80.2.2.2, rf_run nm_cl nm_ct en_xs 8 xx_L kc_L cu_L po_L (some .boolean) 1 0 98 16364 (some cq_L_80.2.2.1) 5000 true cq_L_80.1 alt = true := by
  have e1 : cq_L_80.2.2.2 = al_L_80 := by dsimp only [cq_L_80]
  have e2 : cq_L_80.2.2.1 = mu_L_80 := by dsimp only [cq_L_80]
  have e3 : cq_L_80.1 = 643 := by dsimp only [cq_L_80]
  rw [e1, e2, e3]
  exact rf_pcs (l := al_L_80) 1 ck_L_c_80 (List.isEmpty_iff.mp ck_L_n_80)
theorem ck_L_d_81 : ∀ alt ∈ cq_L_81.2.2.2, rf_run nm_cl nm_ct en_xs 8 xx_L kc_L cu_L po_L (some .boolean) 1 0 98 16364 (some cq_L_81.2.2.1) 5000 true cq_L_81.1 alt = true := by
  have e1 : cq_L_81.2.2.2 = al_L_81 := by dsimp only [cq_L_81]
  have e2 : cq_L_81.2.2.1 = mu_L_81 := by dsimp only [cq_L_81]
  have e3 : cq_L_81.1 = 676 := by dsimp only [cq_L_81]
  rw [e1, e2, e3]
  exact rf_pcs (l := al_L_81) 1 ck_L_c_81 (List.isEmpty_iff.mp ck_L_n_81)
theorem ck_L_d_82 : ∀ alt ∈ cq_L_82.2.2.2, rf_run nm_cl nm_ct en_xs 8 xx_L kc_L cu_L po_L (some .boolean) 1 0 98 16364 (some cq_L_82.2.2.1) 5000 true cq_L_82.1 alt = true := by
  have e1 : cq_L_82.2.2.2 = al_L_82 := by dsimp only [cq_L_82]
  have e2 : cq_L_82.2.2.1 = mu_L_82 := by dsimp only [cq_L_82]
  have e3 : cq_L_82.1 = 709 := by dsimp only [cq_L_82]
  rw [e1, e2, e3]
  exact rf_pcs (l := al_L_82) 1 ck_L_c_82 (List.isEmpty_iff.mp ck_L_n_82)
theorem ck_L_d_83 : ∀ alt ∈ cq_L_83.2.2.2, rf_run nm_cl nm_ct en_xs 8 xx_L kc_L cu_L po_L (some .boolean) 1 0 98 16364 (some cq_L_83.2.2.1) 5000 true cq_L_83.1 alt = true := by
  have e1 : cq_L_83.2.2.2 = al_L_83 := by dsimp only [cq_L_83]
  have e2 : cq_L_83.2.2.1 = mu_L_83 := by dsimp only [cq_L_83]
  have e3 : cq_L_83.1 = 742 := by dsimp only [cq_L_83]
  rw [e1, e2, e3]
  exact rf_pcs (l := al_L_83) 1 ck_L_c_83 (List.isEmpty_iff.mp ck_L_n_83)
theorem ck_L_d_84 : ∀ alt ∈ cq_L_84.2.2.2, rf_run nm_cl nm_ct en_xs 8 xx_L kc_L cu_L po_L (some .boolean) 1 0 98 16364 (some cq_L_84.2.2.1) 5000 true cq_L_84.1 alt = true := by
  have e1 : cq_L_84.2.2.2 = al_L_84 := by dsimp only [cq_L_84]
  have e2 : cq_L_84.2.2.1 = mu_L_84 := by dsimp only [cq_L_84]
  have e3 : cq_L_84.1 = 785 := by dsimp only [cq_L_84]
  rw [e1, e2, e3]
  exact rf_pcs (l := al_L_84) 1 ck_L_c_84 (List.isEmpty_iff.mp ck_L_n_84)
theorem ck_L_d_85 : ∀ alt ∈ cq_L_85.2.2.2, rf_run nm_cl nm_ct en_xs 8 xx_L kc_L cu_L po_L (some .boolean) 1 0 98 16364 (some cq_L_85.2.2.1) 5000 true cq_L_85.1 alt = true := by
  have e1 : cq_L_85.2.2.2 = al_L_85 := by dsimp only [cq_L_85]
  have e2 : cq_L_85.2.2.1 = mu_L_85 := by dsimp only [cq_L_85]
  have e3 : cq_L_85.1 = 818 := by dsimp only [cq_L_85]
  rw [e1, e2, e3]
  exact rf_pcs (l := al_L_85) 1 ck_L_c_85 (List.isEmpty_iff.mp ck_L_n_85)
theorem ck_L_d_86 : ∀ alt ∈ cq_L_86.2.2.2, rf_run nm_cl nm_ct en_xs 8 xx_L kc_L cu_L po_L (some .boolean) 1 0 98 16364 (some cq_L_86.2.2.1) 5000 true cq_L_86.1 alt = true := by
  have e1 : cq_L_86.2.2.2 = al_L_86 := by dsimp only [cq_L_86]
  have e2 : cq_L_86.2.2.1 = mu_L_86 := by dsimp only [cq_L_86]
  have e3 : cq_L_86.1 = 851 := by dsimp only [cq_L_86]
  rw [e1, e2, e3]
  exact rf_pcs (l := al_L_86) 1 ck_L_c_86 (List.isEmpty_iff.mp ck_L_n_86)
theorem ck_L_d_87 : ∀ alt ∈ cq_L_87.2.2.2, rf_run nm_cl nm_ct en_xs 8 xx_L kc_L cu_L po_L (some .boolean) 1 0 98 16364 (some cq_L_87.2.2.1) 5000 true cq_L_87.1 alt = true := by
  have e1 : cq_L_87.2.2.2 = al_L_87 := by dsimp only [cq_L_87]
  have e2 : cq_L_87.2.2.1 = mu_L_87 := by dsimp only [cq_L_87]
  have e3 : cq_L_87.1 = 894 := by dsimp only [cq_L_87]
  rw [e1, e2, e3]
  exact rf_pcs (l := al_L_87) 1 ck_L_c_87 (List.isEmpty_iff.mp ck_L_n_87)
theorem ck_L_d_88 : ∀ alt ∈ cq_L_88.2.2.2, rf_run nm_cl nm_ct en_xs 8 xx_L kc_L cu_L po_L (some .boolean) 1 0 98 16364 (some cq_L_88.2.2.1) 5000 true cq_L_88.1 alt = true := by
  have e1 : cq_L_88.2.2.2 = al_L_88 := by dsimp only [cq_L_88]
  have e2 : cq_L_88.2.2.1 = mu_L_88 := by dsimp only [cq_L_88]
  have e3 : cq_L_88.1 = 937 := by dsimp only [cq_L_88]
  rw [e1, e2, e3]
  exact rf_pcs (l := al_L_88) 1 ck_L_c_88 (List.isEmpty_iff.mp ck_L_n_88)
theorem ck_L_d_89 : ∀ alt ∈ cq_L_89.2.2.2, rf_run nm_cl nm_ct en_xs 8 xx_L kc_L cu_L po_L (some .boolean) 1 0 98 16364 (some cq_L_89.2.2.1) 5000 true cq_L_89.1 alt = true := by
  have e1 : cq_L_89.2.2.2 = al_L_89 := by dsimp only [cq_L_89]
  have e2 : cq_L_89.2.2.1 = mu_L_89 := by dsimp only [cq_L_89]
  have e3 : cq_L_89.1 = 960 := by dsimp only [cq_L_89]
  rw [e1, e2, e3]
  exact rf_pcs (l := al_L_89) 1 ck_L_c_89 (List.isEmpty_iff.mp ck_L_n_89)
theorem ck_L_d_90 : ∀ alt ∈ cq_L_90.2.2.2, rf_run nm_cl nm_ct en_xs 8 xx_L kc_L cu_L po_L (some .boolean) 1 0 98 16364 (some cq_L_90.2.2.1) 5000 true cq_L_90.1 alt = true := by
  have e1 : cq_L_90.2.2.2 = al_L_90 := by dsimp only [cq_L_90]
  have e2 : cq_L_90.2.2.1 = mu_L_90 := by dsimp only [cq_L_90]
  have e3 : cq_L_90.1 = 993 := by dsimp only [cq_L_90]
  rw [e1, e2, e3]
  exact rf_pcs (l := al_L_90) 1 ck_L_c_90 (List.isEmpty_iff.mp ck_L_n_90)
theorem ck_L_d_91 : ∀ alt ∈ cq_L_91.2.2.2, rf_run nm_cl nm_ct en_xs 8 xx_L kc_L cu_L po_L (some .boolean) 1 0 98 16364 (some cq_L_91.2.2.1) 5000 true cq_L_91.1 alt = true := by
  have e1 : cq_L_91.2.2.2 = al_L_91 := by dsimp only [cq_L_91]
  have e2 : cq_L_91.2.2.1 = mu_L_91 := by dsimp only [cq_L_91]
  have e3 : cq_L_91.1 = 1016 := by dsimp only [cq_L_91]
  rw [e1, e2, e3]
  exact rf_pcs (l := al_L_91) 1 ck_L_c_91 (List.isEmpty_iff.mp ck_L_n_91)
theorem ck_L_d_92 : ∀ alt ∈ cq_L_92.2.2.2, rf_run nm_cl nm_ct en_xs 8 xx_L kc_L cu_L po_L (some .boolean) 1 0 98 16364 (some cq_L_92.2.2.1) 5000 true cq_L_92.1 alt = true := by
  have e1 : cq_L_92.2.2.2 = al_L_92 := by dsimp only [cq_L_92]
  have e2 : cq_L_92.2.2.1 = mu_L_92 := by dsimp only [cq_L_92]
  have e3 : cq_L_92.1 = 1039 := by dsimp only [cq_L_92]
  rw [e1, e2, e3]
  exact rf_pcs (l := al_L_92) 1 ck_L_c_92 (List.isEmpty_iff.mp ck_L_n_92)
theorem ck_L_d_93 : ∀ alt ∈ cq_L_93.2.2.2, rf_run nm_cl nm_ct en_xs 8 xx_L kc_L cu_L po_L (some .boolean) 1 0 98 16364 (some cq_L_93.2.2.1) 5000 true cq_L_93.1 alt = true := by
  have e1 : cq_L_93.2.2.2 = al_L_93 := by dsimp only [cq_L_93]
  have e2 : cq_L_93.2.2.1 = mu_L_93 := by dsimp only [cq_L_93]
  have e3 : cq_L_93.1 = 1052 := by dsimp only [cq_L_93]
  rw [e1, e2, e3]
  exact rf_pcs (l := al_L_93) 1 ck_L_c_93 (List.isEmpty_iff.mp ck_L_n_93)
theorem ck_L_d_94 : ∀ alt ∈ cq_L_94.2.2.2, rf_run nm_cl nm_ct en_xs 8 xx_L kc_L cu_L po_L (some .boolean) 1 0 98 16364 (some cq_L_94.2.2.1) 5000 true cq_L_94.1 alt = true := by
  have e1 : cq_L_94.2.2.2 = al_L_94 := by dsimp only [cq_L_94]
  have e2 : cq_L_94.2.2.1 = mu_L_94 := by dsimp only [cq_L_94]
  have e3 : cq_L_94.1 = 1065 := by dsimp only [cq_L_94]
  rw [e1, e2, e3]
  exact rf_pcs (l := al_L_94) 1 ck_L_c_94 (List.isEmpty_iff.mp ck_L_n_94)
theorem ck_L_d_95 : ∀ alt ∈ cq_L_95.2.2.2, rf_run nm_cl nm_ct en_xs 8 xx_L kc_L cu_L po_L (some .boolean) 1 0 98 16364 (some cq_L_95.2.2.1) 5000 true cq_L_95.1 alt = true := by
  have e1 : cq_L_95.2.2.2 = al_L_95 := by dsimp only [cq_L_95]
  have e2 : cq_L_95.2.2.1 = mu_L_95 := by dsimp only [cq_L_95]
  have e3 : cq_L_95.1 = 1073 := by dsimp only [cq_L_95]
  rw [e1, e2, e3]
  exact rf_pcs (l := al_L_95) 1 ck_L_c_95 (List.isEmpty_iff.mp ck_L_n_95)
theorem ck_L_d_96 : ∀ alt ∈ cq_L_96.2.2.2, rf_run nm_cl nm_ct en_xs 8 xx_L kc_L cu_L po_L (some .boolean) 1 0 98 16364 (some cq_L_96.2.2.1) 5000 true cq_L_96.1 alt = true := by
  have e1 : cq_L_96.2.2.2 = al_L_96 := by dsimp only [cq_L_96]
  have e2 : cq_L_96.2.2.1 = mu_L_96 := by dsimp only [cq_L_96]
  have e3 : cq_L_96.1 = 1073 := by dsimp only [cq_L_96]
  rw [e1, e2, e3]
  exact rf_pcs (l := al_L_96) 1 ck_L_c_96 (List.isEmpty_iff.mp ck_L_n_96)
theorem ck_L_d_97 : ∀ alt ∈ cq_L_97.2.2.2, rf_run nm_cl nm_ct en_xs 8 xx_L kc_L cu_L po_L (some .boolean) 1 0 98 16364 (some cq_L_97.2.2.1) 5000 true cq_L_97.1 alt = true := by
  have e1 : cq_L_97.2.2.2 = al_L_97 := by dsimp only [cq_L_97]
  have e2 : cq_L_97.2.2.1 = mu_L_97 := by dsimp only [cq_L_97]
  have e3 : cq_L_97.1 = 1078 := by dsimp only [cq_L_97]
  rw [e1, e2, e3]
  exact rf_pcs (l := al_L_97) 1 ck_L_c_97 (List.isEmpty_iff.mp ck_L_n_97)
theorem ck_L_d_98 : ∀ alt ∈ cq_L_98.2.2.2, rf_run nm_cl nm_ct en_xs 8 xx_L kc_L cu_L po_L (some .boolean) 1 0 98 16364 (some cq_L_98.2.2.1) 5000 true cq_L_98.1 alt = true := by
  have e1 : cq_L_98.2.2.2 = al_L_98 := by dsimp only [cq_L_98]
  have e2 : cq_L_98.2.2.1 = mu_L_98 := by dsimp only [cq_L_98]
  have e3 : cq_L_98.1 = 1087 := by dsimp only [cq_L_98]
  rw [e1, e2, e3]
  exact rf_pcs (l := al_L_98) 0 ck_L_c_98 (List.isEmpty_iff.mp ck_L_n_98)
theorem ck_L_d_99 : ∀ alt ∈ cq_L_99.2.2.2, rf_run nm_cl nm_ct en_xs 8 xx_L kc_L cu_L po_L (some .boolean) 1 0 98 16364 (some cq_L_99.2.2.1) 5000 true cq_L_99.1 alt = true := by
  have e1 : cq_L_99.2.2.2 = al_L_99 := by dsimp only [cq_L_99]
  have e2 : cq_L_99.2.2.1 = mu_L_99 := by dsimp only [cq_L_99]
  have e3 : cq_L_99.1 = 1087 := by dsimp only [cq_L_99]
  rw [e1, e2, e3]
  exact rf_pcs (l := al_L_99) 1 ck_L_c_99 (List.isEmpty_iff.mp ck_L_n_99)
theorem ck_L_d_100 : ∀ alt ∈ cq_L_100.2.2.2, rf_run nm_cl nm_ct en_xs 8 xx_L kc_L cu_L po_L (some .boolean) 1 0 98 16364 (some cq_L_100.2.2.1) 5000 true cq_L_100.1 alt = true := by
  have e1 : cq_L_100.2.2.2 = al_L_100 := by dsimp only [cq_L_100]
  have e2 : cq_L_100.2.2.1 = mu_L_100 := by dsimp only [cq_L_100]
  have e3 : cq_L_100.1 = 1087 := by dsimp only [cq_L_100]
  rw [e1, e2, e3]
  exact rf_pcs (l := al_L_100) 1 ck_L_c_100 (List.isEmpty_iff.mp ck_L_n_100)
theorem ck_L_d_101 : ∀ alt ∈ cq_L_101.2.2.2, rf_run nm_cl nm_ct en_xs 8 xx_L kc_L cu_L po_L (some .boolean) 1 0 98 16364 (some cq_L_101.2.2.1) 5000 true cq_L_101.1 alt = true := by
  have e1 : cq_L_101.2.2.2 = al_L_101 := by dsimp only [cq_L_101]
  have e2 : cq_L_101.2.2.1 = mu_L_101 := by dsimp only [cq_L_101]
  have e3 : cq_L_101.1 = 1087 := by dsimp only [cq_L_101]
  rw [e1, e2, e3]
  exact rf_pcs (l := al_L_101) 0 ck_L_c_101 (List.isEmpty_iff.mp ck_L_n_101)
theorem ck_L_d_102 : ∀ alt ∈ cq_L_102.2.2.2, rf_run nm_cl nm_ct en_xs 8 xx_L kc_L cu_L po_L (some .boolean) 1 0 98 16364 (some cq_L_102.2.2.1) 5000 true cq_L_102.1 alt = true := by
  have e1 : cq_L_102.2.2.2 = al_L_102 := by dsimp only [cq_L_102]
  have e2 : cq_L_102.2.2.1 = mu_L_102 := by dsimp only [cq_L_102]
  have e3 : cq_L_102.1 = 1091 := by dsimp only [cq_L_102]
  rw [e1, e2, e3]
  exact rf_pcs (l := al_L_102) 1 ck_L_c_102 (List.isEmpty_iff.mp ck_L_n_102)
theorem ck_L_d_103 : ∀ alt ∈ cq_L_103.2.2.2, rf_run nm_cl nm_ct en_xs 8 xx_L kc_L cu_L po_L (some .boolean) 1 0 98 16364 (some cq_L_103.2.2.1) 5000 true cq_L_103.1 alt = true := by
  have e1 : cq_L_103.2.2.2 = al_L_103 := by dsimp only [cq_L_103]
  have e2 : cq_L_103.2.2.1 = mu_L_103 := by dsimp only [cq_L_103]
  have e3 : cq_L_103.1 = 1114 := by dsimp only [cq_L_103]
  rw [e1, e2, e3]
  exact rf_pcs (l := al_L_103) 1 ck_L_c_103 (List.isEmpty_iff.mp ck_L_n_103)
theorem ck_L_d_104 : ∀ alt ∈ cq_L_104.2.2.2, rf_run nm_cl nm_ct en_xs 8 xx_L kc_L cu_L po_L (some .boolean) 1 0 98 16364 (some cq_L_104.2.2.1) 5000 true cq_L_104.1 alt = true := by
  have e1 : cq_L_104.2.2.2 = al_L_104 := by dsimp only [cq_L_104]
  have e2 : cq_L_104.2.2.1 = mu_L_104 := by dsimp only [cq_L_104]
  have e3 : cq_L_104.1 = 1157 := by dsimp only [cq_L_104]
  rw [e1, e2, e3]
  exact rf_pcs (l := al_L_104) 1 ck_L_c_104 (List.isEmpty_iff.mp ck_L_n_104)
theorem ck_L_d_105 : ∀ alt ∈ cq_L_105.2.2.2, rf_run nm_cl nm_ct en_xs 8 xx_L kc_L cu_L po_L (some .boolean) 1 0 98 16364 (some cq_L_105.2.2.1) 5000 true cq_L_105.1 alt = true := by
  have e1 : cq_L_105.2.2.2 = al_L_105 := by dsimp only [cq_L_105]
  have e2 : cq_L_105.2.2.1 = mu_L_105 := by dsimp only [cq_L_105]
  have e3 : cq_L_105.1 = 1180 := by dsimp only [cq_L_105]
  rw [e1, e2, e3]
  exact rf_pcs (l := al_L_105) 1 ck_L_c_105 (List.isEmpty_iff.mp ck_L_n_105)
theorem ck_L_d_106 : ∀ alt ∈ cq_L_106.2.2.2, rf_run nm_cl nm_ct en_xs 8 xx_L kc_L cu_L po_L (some .boolean) 1 0 98 16364 (some cq_L_106.2.2.1) 5000 true cq_L_106.1 alt = true := by
  have e1 : cq_L_106.2.2.2 = al_L_106 := by dsimp only [cq_L_106]
  have e2 : cq_L_106.2.2.1 = mu_L_106 := by dsimp only [cq_L_106]
  have e3 : cq_L_106.1 = 1191 := by dsimp only [cq_L_106]
  rw [e1, e2, e3]
  exact rf_pcs (l := al_L_106) 8 ck_L_c_106 (List.isEmpty_iff.mp ck_L_n_106)
theorem ck_L_d_107 : ∀ alt ∈ cq_L_107.2.2.2, rf_run nm_cl nm_ct en_xs 8 xx_L kc_L cu_L po_L (some .boolean) 1 0 98 16364 (some cq_L_107.2.2.1) 5000 true cq_L_107.1 alt = true := by
  have e1 : cq_L_107.2.2.2 = al_L_107 := by dsimp only [cq_L_107]
  have e2 : cq_L_107.2.2.1 = mu_L_107 := by dsimp only [cq_L_107]
  have e3 : cq_L_107.1 = 1194 := by dsimp only [cq_L_107]
  rw [e1, e2, e3]
  exact rf_pcs (l := al_L_107) 1 ck_L_c_107 (List.isEmpty_iff.mp ck_L_n_107)
theorem ck_L_d_108 : ∀ alt ∈ cq_L_108.2.2.2, rf_run nm_cl nm_ct en_xs 8 xx_L kc_L cu_L po_L (some .boolean) 1 0 98 16364 (some cq_L_108.2.2.1) 5000 true cq_L_108.1 alt = true := by
  have e1 : cq_L_108.2.2.2 = al_L_108 := by dsimp only [cq_L_108]
  have e2 : cq_L_108.2.2.1 = mu_L_108 := by dsimp only [cq_L_108]
  have e3 : cq_L_108.1 = 1194 := by dsimp only [cq_L_108]
  rw [e1, e2, e3]
  exact rf_pcs (l := al_L_108) 1 ck_L_c_108 (List.isEmpty_iff.mp ck_L_n_108)
theorem ck_L_d_109 : ∀ alt ∈ cq_L_109.2.2.2, rf_run nm_cl nm_ct en_xs 8 xx_L kc_L cu_L po_L (some .boolean) 1 0 98 16364 (some cq_L_109.2.2.1) 5000 true cq_L_109.1 alt = true := by
  have e1 : cq_L_109.2.2.2 = al_L_109 := by dsimp only [cq_L_109]
  have e2 : cq_L_109.2.2.1 = mu_L_109 := by dsimp only [cq_L_109]
  have e3 : cq_L_109.1 = 1194 := by dsimp only [cq_L_109]
  rw [e1, e2, e3]
  exact rf_pcs (l := al_L_109) 1 ck_L_c_109 (List.isEmpty_iff.mp ck_L_n_109)
theorem ck_L_d_110 : ∀ alt ∈ cq_L_110.2.2.2, rf_run nm_cl nm_ct en_xs 8 xx_L kc_L cu_L po_L (some .boolean) 1 0 98 16364 (some cq_L_110.2.2.1) 5000 true cq_L_110.1 alt = true := by
  have e1 : cq_L_110.2.2.2 = al_L_110 := by dsimp only [cq_L_110]
  have e2 : cq_L_110.2.2.1 = mu_L_110 := by dsimp only [cq_L_110]
  have e3 : cq_L_110.1 = 1194 := by dsimp only [cq_L_110]
  rw [e1, e2, e3]
  exact rf_pcs (l := al_L_110) 1 ck_L_c_110 (List.isEmpty_iff.mp ck_L_n_110)
theorem ck_L_d_111 : ∀ alt ∈ cq_L_111.2.2.2, rf_run nm_cl nm_ct en_xs 8 xx_L kc_L cu_L po_L (some .boolean) 1 0 98 16364 (some cq_L_111.2.2.1) 5000 true cq_L_111.1 alt = true := by
  have e1 : cq_L_111.2.2.2 = al_L_111 := by dsimp only [cq_L_111]
  have e2 : cq_L_111.2.2.1 = mu_L_111 := by dsimp only [cq_L_111]
  have e3 : cq_L_111.1 = 1194 := by dsimp only [cq_L_111]
  rw [e1, e2, e3]
  exact rf_pcs (l := al_L_111) 1 ck_L_c_111 (List.isEmpty_iff.mp ck_L_n_111)
theorem ck_L_d_112 : ∀ alt ∈ cq_L_112.2.2.2, rf_run nm_cl nm_ct en_xs 8 xx_L kc_L cu_L po_L (some .boolean) 1 0 98 16364 (some cq_L_112.2.2.1) 5000 true cq_L_112.1 alt = true := by
  have e1 : cq_L_112.2.2.2 = al_L_112 := by dsimp only [cq_L_112]
  have e2 : cq_L_112.2.2.1 = mu_L_112 := by dsimp only [cq_L_112]
  have e3 : cq_L_112.1 = 1194 := by dsimp only [cq_L_112]
  rw [e1, e2, e3]
  exact rf_pcs (l := al_L_112) 1 ck_L_c_112 (List.isEmpty_iff.mp ck_L_n_112)
theorem ck_L_d_113 : ∀ alt ∈ cq_L_113.2.2.2, rf_run nm_cl nm_ct en_xs 8 xx_L kc_L cu_L po_L (some .boolean) 1 0 98 16364 (some cq_L_113.2.2.1) 5000 true cq_L_113.1 alt = true := by
  have e1 : cq_L_113.2.2.2 = al_L_113 := by dsimp only [cq_L_113]
  have e2 : cq_L_113.2.2.1 = mu_L_113 := by dsimp only [cq_L_113]
  have e3 : cq_L_113.1 = 1194 := by dsimp only [cq_L_113]
  rw [e1, e2, e3]
  exact rf_pcs (l := al_L_113) 1 ck_L_c_113 (List.isEmpty_iff.mp ck_L_n_113)
theorem ck_L_d_114 : ∀ alt ∈ cq_L_114.2.2.2, rf_run nm_cl nm_ct en_xs 8 xx_L kc_L cu_L po_L (some .boolean) 1 0 98 16364 (some cq_L_114.2.2.1) 5000 true cq_L_114.1 alt = true := by
  have e1 : cq_L_114.2.2.2 = al_L_114 := by dsimp only [cq_L_114]
  have e2 : cq_L_114.2.2.1 = mu_L_114 := by dsimp only [cq_L_114]
  have e3 : cq_L_114.1 = 1194 := by dsimp only [cq_L_114]
  rw [e1, e2, e3]
  exact rf_pcs (l := al_L_114) 1 ck_L_c_114 (List.isEmpty_iff.mp ck_L_n_114)
theorem ck_L_d_115 : ∀ alt ∈ cq_L_115.2.2.2, rf_run nm_cl nm_ct en_xs 8 xx_L kc_L cu_L po_L (some .boolean) 1 0 98 16364 (some cq_L_115.2.2.1) 5000 true cq_L_115.1 alt = true := by
  have e1 : cq_L_115.2.2.2 = al_L_115 := by dsimp only [cq_L_115]
  have e2 : cq_L_115.2.2.1 = mu_L_115 := by dsimp only [cq_L_115]
  have e3 : cq_L_115.1 = 1194 := by dsimp only [cq_L_115]
  rw [e1, e2, e3]
  exact rf_pcs (l := al_L_115) 1 ck_L_c_115 (List.isEmpty_iff.mp ck_L_n_115)
theorem ck_L_d_116 : ∀ alt ∈ cq_L_116.2.2.2, rf_run nm_cl nm_ct en_xs 8 xx_L kc_L cu_L po_L (some .boolean) 1 0 98 16364 (some cq_L_116.2.2.1) 5000 true cq_L_116.1 alt = true := by
  have e1 : cq_L_116.2.2.2 = al_L_116 := by dsimp only [cq_L_116]
  have e2 : cq_L_116.2.2.1 = mu_L_116 := by dsimp only [cq_L_116]
  have e3 : cq_L_116.1 = 1194 := by dsimp only [cq_L_116]
  rw [e1, e2, e3]
  exact rf_pcs (l := al_L_116) 1 ck_L_c_116 (List.isEmpty_iff.mp ck_L_n_116)
theorem ck_L_d_117 : ∀ alt ∈ cq_L_117.2.2.2, rf_run nm_cl nm_ct en_xs 8 xx_L kc_L cu_L po_L (some .boolean) 1 0 98 16364 (some cq_L_117.2.2.1) 5000 true cq_L_117.1 alt = true := by
  have e1 : cq_L_117.2.2.2 = al_L_117 := by dsimp only [cq_L_117]
  have e2 : cq_L_117.2.2.1 = mu_L_117 := by dsimp only [cq_L_117]
  have e3 : cq_L_117.1 = 1194 := by dsimp only [cq_L_117]
  rw [e1, e2, e3]
  exact rf_pcs (l := al_L_117) 1 ck_L_c_117 (List.isEmpty_iff.mp ck_L_n_117)
theorem ck_L_d_118 : ∀ alt ∈ cq_L_118.2.2.2, rf_run nm_cl nm_ct en_xs 8 xx_L kc_L cu_L po_L (some .boolean) 1 0 98 16364 (some cq_L_118.2.2.1) 5000 true cq_L_118.1 alt = true := by
  have e1 : cq_L_118.2.2.2 = al_L_118 := by dsimp only [cq_L_118]
  have e2 : cq_L_118.2.2.1 = mu_L_118 := by dsimp only [cq_L_118]
  have e3 : cq_L_118.1 = 1194 := by dsimp only [cq_L_118]
  rw [e1, e2, e3]
  exact rf_pcs (l := al_L_118) 1 ck_L_c_118 (List.isEmpty_iff.mp ck_L_n_118)
theorem ck_L_d_119 : ∀ alt ∈ cq_L_119.2.2.2, rf_run nm_cl nm_ct en_xs 8 xx_L kc_L cu_L po_L (some .boolean) 1 0 98 16364 (some cq_L_119.2.2.1) 5000 true cq_L_119.1 alt = true := by
  have e1 : cq_L_119.2.2.2 = al_L_119 := by dsimp only [cq_L_119]
  have e2 : cq_L_119.2.2.1 = mu_L_119 := by dsimp only [cq_L_119]
  have e3 : cq_L_119.1 = 1194 := by dsimp only [cq_L_119]
  rw [e1, e2, e3]
  exact rf_pcs (l := al_L_119) 1 ck_L_c_119 (List.isEmpty_iff.mp ck_L_n_119)
theorem ck_L_d_120 : ∀ alt ∈ cq_L_120.2.2.2, rf_run nm_cl nm_ct en_xs 8 xx_L kc_L cu_L po_L (some .boolean) 1 0 98 16364 (some cq_L_120.2.2.1) 5000 true cq_L_120.1 alt = true := by
  have e1 : cq_L_120.2.2.2 = al_L_120 := by dsimp only [cq_L_120]
  have e2 : cq_L_120.2.2.1 = mu_L_120 := by dsimp only [cq_L_120]
  have e3 : cq_L_120.1 = 1194 := by dsimp only [cq_L_120]
  rw [e1, e2, e3]
  exact rf_pcs (l := al_L_120) 1 ck_L_c_120 (List.isEmpty_iff.mp ck_L_n_120)
theorem ck_L_d_121 : ∀ alt ∈ cq_L_121.2.2.2, rf_run nm_cl nm_ct en_xs 8 xx_L kc_L cu_L po_L (some .boolean) 1 0 98 16364 (some cq_L_121.2.2.1) 5000 true cq_L_121.1 alt = true := by
  have e1 : cq_L_121.2.2.2 = al_L_121 := by dsimp only [cq_L_121]
  have e2 : cq_L_121.2.2.1 = mu_L_121 := by dsimp only [cq_L_121]
  have e3 : cq_L_121.1 = 1194 := by dsimp only [cq_L_121]
  rw [e1, e2, e3]
  exact rf_pcs (l := al_L_121) 1 ck_L_c_121 (List.isEmpty_iff.mp ck_L_n_121)
theorem ck_L_d_122 : ∀ alt ∈ cq_L_122.2.2.2, rf_run nm_cl nm_ct en_xs 8 xx_L kc_L cu_L po_L (some .boolean) 1 0 98 16364 (some cq_L_122.2.2.1) 5000 true cq_L_122.1 alt = true := by
  have e1 : cq_L_122.2.2.2 = al_L_122 := by dsimp only [cq_L_122]
  have e2 : cq_L_122.2.2.1 = mu_L_122 := by dsimp only [cq_L_122]
  have e3 : cq_L_122.1 = 1194 := by dsimp only [cq_L_122]
  rw [e1, e2, e3]
  exact rf_pcs (l := al_L_122) 1 ck_L_c_122 (List.isEmpty_iff.mp ck_L_n_122)
theorem ck_L_d_123 : ∀ alt ∈ cq_L_123.2.2.2, rf_run nm_cl nm_ct en_xs 8 xx_L kc_L cu_L po_L (some .boolean) 1 0 98 16364 (some cq_L_123.2.2.1) 5000 true cq_L_123.1 alt = true := by
  have e1 : cq_L_123.2.2.2 = al_L_123 := by dsimp only [cq_L_123]
  have e2 : cq_L_123.2.2.1 = mu_L_123 := by dsimp only [cq_L_123]
  have e3 : cq_L_123.1 = 1194 := by dsimp only [cq_L_123]
  rw [e1, e2, e3]
  exact rf_pcs (l := al_L_123) 1 ck_L_c_123 (List.isEmpty_iff.mp ck_L_n_123)
theorem ck_L_d_124 : ∀ alt ∈ cq_L_124.2.2.2, rf_run nm_cl nm_ct en_xs 8 xx_L kc_L cu_L po_L (some .boolean) 1 0 98 16364 (some cq_L_124.2.2.1) 5000 true cq_L_124.1 alt = true := by
  have e1 : cq_L_124.2.2.2 = al_L_124 := by dsimp only [cq_L_124]
  have e2 : cq_L_124.2.2.1 = mu_L_124 := by dsimp only [cq_L_124]
  have e3 : cq_L_124.1 = 1194 := by dsimp only [cq_L_124]
  rw [e1, e2, e3]
  exact rf_pcs (l := al_L_124) 1 ck_L_c_124 (List.isEmpty_iff.mp ck_L_n_124)
theorem ck_L_d_125 : ∀ alt ∈ cq_L_125.2.2.2, rf_run nm_cl nm_ct en_xs 8 xx_L kc_L cu_L po_L (some .boolean) 1 0 98 16364 (some cq_L_125.2.2.1) 5000 true cq_L_125.1 alt = true := by
  have e1 : cq_L_125.2.2.2 = al_L_125 := by dsimp only [cq_L_125]
  have e2 : cq_L_125.2.2.1 = mu_L_125 := by dsimp only [cq_L_125]
  have e3 : cq_L_125.1 = 1194 := by dsimp only [cq_L_125]
  rw [e1, e2, e3]
  exact rf_pcs (l := al_L_125) 1 ck_L_c_125 (List.isEmpty_iff.mp ck_L_n_125)
theorem ck_L_d_126 : ∀ alt ∈ cq_L_126.2.2.2, rf_run nm_cl nm_ct en_xs 8 xx_L kc_L cu_L po_L (some .boolean) 1 0 98 16364 (some cq_L_126.2.2.1) 5000 true cq_L_126.1 alt = true := by
  have e1 : cq_L_126.2.2.2 = al_L_126 := by dsimp only [cq_L_126]
  have e2 : cq_L_126.2.2.1 = mu_L_126 := by dsimp only [cq_L_126]
  have e3 : cq_L_126.1 = 1194 := by dsimp only [cq_L_126]
  rw [e1, e2, e3]
  exact rf_pcs (l := al_L_126) 1 ck_L_c_126 (List.isEmpty_iff.mp ck_L_n_126)
theorem ck_L_d_127 : ∀ alt ∈ cq_L_127.2.2.2, rf_run nm_cl nm_ct en_xs 8 xx_L kc_L cu_L po_L (some .boolean) 1 0 98 16364 (some cq_L_127.2.2.1) 5000 true cq_L_127.1 alt = true := by
  have e1 : cq_L_127.2.2.2 = al_L_127 := by dsimp only [cq_L_127]
  have e2 : cq_L_127.2.2.1 = mu_L_127 := by dsimp only [cq_L_127]
  have e3 : cq_L_127.1 = 1194 := by dsimp only [cq_L_127]
  rw [e1, e2, e3]
  exact rf_pcs (l := al_L_127) 1 ck_L_c_127 (List.isEmpty_iff.mp ck_L_n_127)
theorem ck_L_d_128 : ∀ alt ∈ cq_L_128.2.2.2, rf_run nm_cl nm_ct en_xs 8 xx_L kc_L cu_L po_L (some .boolean) 1 0 98 16364 (some cq_L_128.2.2.1) 5000 true cq_L_128.1 alt = true := by
  have e1 : cq_L_128.2.2.2 = al_L_128 := by dsimp only [cq_L_128]
  have e2 : cq_L_128.2.2.1 = mu_L_128 := by dsimp only [cq_L_128]
  have e3 : cq_L_128.1 = 1194 := by dsimp only [cq_L_128]
  rw [e1, e2, e3]
  exact rf_pcs (l := al_L_128) 1 ck_L_c_128 (List.isEmpty_iff.mp ck_L_n_128)
theorem ck_L_d_129 : ∀ alt ∈ cq_L_129.2.2.2, rf_run nm_cl nm_ct en_xs 8 xx_L kc_L cu_L po_L (some .boolean) 1 0 98 16364 (some cq_L_129.2.2.1) 5000 true cq_L_129.1 alt = true := by
  have e1 : cq_L_129.2.2.2 = al_L_129 := by dsimp only [cq_L_129]
  have e2 : cq_L_129.2.2.1 = mu_L_129 := by dsimp only [cq_L_129]
  have e3 : cq_L_129.1 = 1194 := by dsimp only [cq_L_129]
  rw [e1, e2, e3]
  exact rf_pcs (l := al_L_129) 1 ck_L_c_129 (List.isEmpty_iff.mp ck_L_n_129)
theorem ck_L_d_130 : ∀ alt ∈ cq_L_130.2.2.2, rf_run nm_cl nm_ct en_xs 8 xx_L kc_L cu_L po_L (some .boolean) 1 0 98 16364 (some cq_L_130.2.2.1) 5000 true cq_L_130.1 alt = true := by
  have e1 : cq_L_130.2.2.2 = al_L_130 := by dsimp only [cq_L_130]
  have e2 : cq_L_130.2.2.1 = mu_L_130 := by dsimp only [cq_L_130]
  have e3 : cq_L_130.1 = 1194 := by dsimp only [cq_L_130]
  rw [e1, e2, e3]
  exact rf_pcs (l := al_L_130) 1 ck_L_c_130 (List.isEmpty_iff.mp ck_L_n_130)
theorem ck_L_d_131 : ∀ alt ∈ cq_L_131.2.2.2, rf_run nm_cl nm_ct en_xs 8 xx_L kc_L cu_L po_L (some .boolean) 1 0 98 16364 (some cq_L_131.2.2.1) 5000 true cq_L_131.1 alt = true := by
  have e1 : cq_L_131.2.2.2 = al_L_131 := by dsimp only [cq_L_131]
  have e2 : cq_L_131.2.2.1 = mu_L_131 := by dsimp only [cq_L_131]
  have e3 : cq_L_131.1 = 1194 := by dsimp only [cq_L_131]
  rw [e1, e2, e3]
  exact rf_pcs (l := al_L_131) 1 ck_L_c_131 (List.isEmpty_iff.mp ck_L_n_131)
theorem ck_L_d_132 : ∀ alt ∈ cq_L_132.2.2.2, rf_run nm_cl nm_ct en_xs 8 xx_L kc_L cu_L po_L (some .boolean) 1 0 98 16364 (some cq_L_132.2.2.1) 5000 true cq_L_132.1 alt = true := by
  have e1 : cq_L_132.2.2.2 = al_L_132 := by dsimp only [cq_L_132]
  have e2 : cq_L_132.2.2.1 = mu_L_132 := by dsimp only [cq_L_132]
  have e3 : cq_L_132.1 = 1194 := by dsimp only [cq_L_132]
  rw [e1, e2, e3]
  exact rf_pcs (l := al_L_132) 1 ck_L_c_132 (List.isEmpty_iff.mp ck_L_n_132)
theorem ck_L_d_133 : ∀ alt ∈ cq_L_133.2.2.2, rf_run nm_cl nm_ct en_xs 8 xx_L kc_L cu_L po_L (some .boolean) 1 0 98 16364 (some cq_L_133.2.2.1) 5000 true cq_L_133.1 alt = true := by
  have e1 : cq_L_133.2.2.2 = al_L_133 := by dsimp only [cq_L_133]
  have e2 : cq_L_133.2.2.1 = mu_L_133 := by dsimp only [cq_L_133]
  have e3 : cq_L_133.1 = 1209 := by dsimp only [cq_L_133]
  rw [e1, e2, e3]
  exact rf_pcs (l := al_L_133) 1 ck_L_c_133 (List.isEmpty_iff.mp ck_L_n_133)
theorem ck_L_d_134 : ∀ alt ∈ cq_L_134.2.2.2, rf_run nm_cl nm_ct en_xs 8 xx_L kc_L cu_L po_L (some .boolean) 1 0 98 16364 (some cq_L_134.2.2.1) 5000 true cq_L_134.1 alt = true := by
  have e1 : cq_L_134.2.2.2 = al_L_134 := by dsimp only [cq_L_134]
  have e2 : cq_L_134.2.2.1 = mu_L_134 := by dsimp only [cq_L_134]
  have e3 : cq_L_134.1 = 1209 := by dsimp only [cq_L_134]
  rw [e1, e2, e3]
  exact rf_pcs (l := al_L_134) 1 ck_L_c_134 (List.isEmpty_iff.mp ck_L_n_134)
theorem ck_L_d_135 : ∀ alt ∈ cq_L_135.2.2.2, rf_run nm_cl nm_ct en_xs 8 xx_L kc_L cu_L po_L (some .boolean) 1 0 98 16364 (some cq_L_135.2.2.1) 5000 true cq_L_135.1 alt = true := by
  have e1 : cq_L_135.2.2.2 = al_L_135 := by dsimp only [cq_L_135]
  have e2 : cq_L_135.2.2.1 = mu_L_135 := by dsimp only [cq_L_135]
  have e3 : cq_L_135.1 = 1209 := by dsimp only [cq_L_135]
  rw [e1, e2, e3]
  exact rf_pcs (l := al_L_135) 1 ck_L_c_135 (List.isEmpty_iff.mp ck_L_n_135)
theorem ck_L_d_136 : ∀ alt ∈ cq_L_136.2.2.2, rf_run nm_cl nm_ct en_xs 8 xx_L kc_L cu_L po_L (some .boolean) 1 0 98 16364 (some cq_L_136.2.2.1) 5000 true cq_L_136.1 alt = true := by
  have e1 : cq_L_136.2.2.2 = al_L_136 := by dsimp only [cq_L_136]
  have e2 : cq_L_136.2.2.1 = mu_L_136 := by dsimp only [cq_L_136]
  have e3 : cq_L_136.1 = 1209 := by dsimp only [cq_L_136]
  rw [e1, e2, e3]
  exact rf_pcs (l := al_L_136) 1 ck_L_c_136 (List.isEmpty_iff.mp ck_L_n_136)
theorem ck_L_d_137 : ∀ alt ∈ cq_L_137.2.2.2, rf_run nm_cl nm_ct en_xs 8 xx_L kc_L cu_L po_L (some .boolean) 1 0 98 16364 (some cq_L_137.2.2.1) 5000 true cq_L_137.1 alt = true := by
  have e1 : cq_L_137.2.2.2 = al_L_137 := by dsimp only [cq_L_137]
  have e2 : cq_L_137.2.2.1 = mu_L_137 := by dsimp only [cq_L_137]
  have e3 : cq_L_137.1 = 1209 := by dsimp only [cq_L_137]
  rw [e1, e2, e3]
  exact rf_pcs (l := al_L_137) 1 ck_L_c_137 (List.isEmpty_iff.mp ck_L_n_137)
theorem ck_L_d_138 : ∀ alt ∈ cq_L_138.2.2.2, rf_run nm_cl nm_ct en_xs 8 xx_L kc_L cu_L po_L (some .boolean) 1 0 98 16364 (some cq_L_138.2.2.1) 5000 true cq_L_138.1 alt = true := by
  have e1 : cq_L_138.2.2.2 = al_L_138 := by dsimp only [cq_L_138]
  have e2 : cq_L_138.2.2.1 = mu_L_138 := by dsimp only [cq_L_138]
  have e3 : cq_L_138.1 = 1209 := by dsimp only [cq_L_138]
  rw [e1, e2, e3]
  exact rf_pcs (l := al_L_138) 1 ck_L_c_138 (List.isEmpty_iff.mp ck_L_n_138)
theorem ck_L_d_139 : ∀ alt ∈ cq_L_139.2.2.2, rf_run nm_cl nm_ct en_xs 8 xx_L kc_L cu_L po_L (some .boolean) 1 0 98 16364 (some cq_L_139.2.2.1) 5000 true cq_L_139.1 alt = true := by
  have e1 : cq_L_139.2.2.2 = al_L_139 := by dsimp only [cq_L_139]
  have e2 : cq_L_139.2.2.1 = mu_L_139 := by dsimp only [cq_L_139]
  have e3 : cq_L_139.1 = 1209 := by dsimp only [cq_L_139]
  rw [e1, e2, e3]
  exact rf_pcs (l := al_L_139) 1 ck_L_c_139 (List.isEmpty_iff.mp ck_L_n_139)
theorem ck_L_d_140 : ∀ alt ∈ cq_L_140.2.2.2, rf_run nm_cl nm_ct en_xs 8 xx_L kc_L cu_L po_L (some .boolean) 1 0 98 16364 (some cq_L_140.2.2.1) 5000 true cq_L_140.1 alt = true := by
  have e1 : cq_L_140.2.2.2 = al_L_140 := by dsimp only [cq_L_140]
  have e2 : cq_L_140.2.2.1 = mu_L_140 := by dsimp only [cq_L_140]
  have e3 : cq_L_140.1 = 1209 := by dsimp only [cq_L_140]
  rw [e1, e2, e3]
  exact rf_pcs (l := al_L_140) 1 ck_L_c_140 (List.isEmpty_iff.mp ck_L_n_140)
theorem ck_L_d_141 : ∀ alt ∈ cq_L_141.2.2.2, rf_run nm_cl nm_ct en_xs 8 xx_L kc_L cu_L po_L (some .boolean) 1 0 98 16364 (some cq_L_141.2.2.1) 5000 true cq_L_141.1 alt = true := by
  have e1 : cq_L_141.2.2.2 = al_L_141 := by dsimp only [cq_L_141]
  have e2 : cq_L_141.2.2.1 = mu_L_141 := by dsimp only [cq_L_141]
  have e3 : cq_L_141.1 = 1209 := by dsimp only [cq_L_141]
  rw [e1, e2, e3]
  exact rf_pcs (l := al_L_141) 1 ck_L_c_141 (List.isEmpty_iff.mp ck_L_n_141)
theorem ck_L_d_142 : ∀ alt ∈ cq_L_142.2.2.2, rf_run nm_cl nm_ct en_xs 8 xx_L kc_L cu_L po_L (some .boolean) 1 0 98 16364 (some cq_L_142.2.2.1) 5000 true cq_L_142.1 alt = true := by
  have e1 : cq_L_142.2.2.2 = al_L_142 := by dsimp only [cq_L_142]
  have e2 : cq_L_142.2.2.1 = mu_L_142 := by dsimp only [cq_L_142]
  have e3 : cq_L_142.1 = 1209 := by dsimp only [cq_L_142]
  rw [e1, e2, e3]
  exact rf_pcs (l := al_L_142) 1 ck_L_c_142 (List.isEmpty_iff.mp ck_L_n_142)
theorem ck_L_d_143 : ∀ alt ∈ cq_L_143.2.2.2, rf_run nm_cl nm_ct en_xs 8 xx_L kc_L cu_L po_L (some .boolean) 1 0 98 16364 (some cq_L_143.2.2.1) 5000 true cq_L_143.1 alt = true := by
  have e1 : cq_L_143.2.2.2 = al_L_143 := by dsimp only [cq_L_143]
  have e2 : cq_L_143.2.2.1 = mu_L_143 := by dsimp only [cq_L_143]
  have e3 : cq_L_143.1 = 1209 := by dsimp only [cq_L_143]
  rw [e1, e2, e3]
  exact rf_pcs (l := al_L_143) 1 ck_L_c_143 (List.isEmpty_iff.mp ck_L_n_143)
theorem ck_L_d_144 : ∀ alt ∈ cq_L_144.2.2.2, rf_run nm_cl nm_ct en_xs 8 xx_L kc_L cu_L po_L (some .boolean) 1 0 98 16364 (some cq_L_144.2.2.1) 5000 true cq_L_144.1 alt = true := by
  have e1 : cq_L_144.2.2.2 = al_L_144 := by dsimp only [cq_L_144]
  have e2 : cq_L_144.2.2.1 = mu_L_144 := by dsimp only [cq_L_144]
  have e3 : cq_L_144.1 = 1209 := by dsimp only [cq_L_144]
  rw [e1, e2, e3]
  exact rf_pcs (l := al_L_144) 1 ck_L_c_144 (List.isEmpty_iff.mp ck_L_n_144)
theorem ck_L_d_145 : ∀ alt ∈ cq_L_145.2.2.2, rf_run nm_cl nm_ct en_xs 8 xx_L kc_L cu_L po_L (some .boolean) 1 0 98 16364 (some cq_L_145.2.2.1) 5000 true cq_L_145.1 alt = true := by
  have e1 : cq_L_145.2.2.2 = al_L_145 := by dsimp only [cq_L_145]
  have e2 : cq_L_145.2.2.1 = mu_L_145 := by dsimp only [cq_L_145]
  have e3 : cq_L_145.1 = 1209 := by dsimp only [cq_L_145]
  rw [e1, e2, e3]
  exact rf_pcs (l := al_L_145) 1 ck_L_c_145 (List.isEmpty_iff.mp ck_L_n_145)
theorem ck_L_d_146 : ∀ alt ∈ cq_L_146.2.2.2, rf_run nm_cl nm_ct en_xs 8 xx_L kc_L cu_L po_L (some .boolean) 1 0 98 16364 (some cq_L_146.2.2.1) 5000 true cq_L_146.1 alt = true := by
  have e1 : cq_L_146.2.2.2 = al_L_146 := by dsimp only [cq_L_146]
  have e2 : cq_L_146.2.2.1 = mu_L_146 := by dsimp only [cq_L_146]
  have e3 : cq_L_146.1 = 1213 := by dsimp only [cq_L_146]
  rw [e1, e2, e3]
  exact rf_pcs (l := al_L_146) 1 ck_L_c_146 (List.isEmpty_iff.mp ck_L_n_146)
theorem ck_L_d_147 : ∀ alt ∈ cq_L_147.2.2.2, rf_run nm_cl nm_ct en_xs 8 xx_L kc_L cu_L po_L (some .boolean) 1 0 98 16364 (some cq_L_147.2.2.1) 5000 true cq_L_147.1 alt = true := by
  have e1 : cq_L_147.2.2.2 = al_L_147 := by dsimp only [cq_L_147]
  have e2 : cq_L_147.2.2.1 = mu_L_147 := by dsimp only [cq_L_147]
  have e3 : cq_L_147.1 = 1229 := by dsimp only [cq_L_147]
  rw [e1, e2, e3]
  exact rf_pcs (l := al_L_147) 8 ck_L_c_147 (List.isEmpty_iff.mp ck_L_n_147)
theorem ck_L_d_148 : ∀ alt ∈ cq_L_148.2.2.2, rf_run nm_cl nm_ct en_xs 8 xx_L kc_L cu_L po_L (some .boolean) 1 0 98 16364 (some cq_L_148.2.2.1) 5000 true cq_L_148.1 alt = true := by
  have e1 : cq_L_148.2.2.2 = al_L_148 := by dsimp only [cq_L_148]
  have e2 : cq_L_148.2.2.1 = mu_L_148 := by dsimp only [cq_L_148]
  have e3 : cq_L_148.1 = 1252 := by dsimp only [cq_L_148]
  rw [e1, e2, e3]
  exact rf_pcs (l := al_L_148) 1 ck_L_c_148 (List.isEmpty_iff.mp ck_L_n_148)
theorem ck_L_d_149 : ∀ alt ∈ cq_L_149.2.2.2, rf_run nm_cl nm_ct en_xs 8 xx_L kc_L cu_L po_L (some .boolean) 1 0 98 16364 (some cq_L_149.2.2.1) 5000 true cq_L_149.1 alt = true := by
  have e1 : cq_L_149.2.2.2 = al_L_149 := by dsimp only [cq_L_149]
  have e2 : cq_L_149.2.2.1 = mu_L_149 := by dsimp only [cq_L_149]
  have e3 : cq_L_149.1 = 1252 := by dsimp only [cq_L_149]
  rw [e1, e2, e3]
  exact rf_pcs (l := al_L_149) 1 ck_L_c_149 (List.isEmpty_iff.mp ck_L_n_149)
theorem ck_L_d_150 : ∀ alt ∈ cq_L_150.2.2.2, rf_run nm_cl nm_ct en_xs 8 xx_L kc_L cu_L po_L (some .boolean) 1 0 98 16364 (some cq_L_150.2.2.1) 5000 true cq_L_150.1 alt = true := by
  have e1 : cq_L_150.2.2.2 = al_L_150 := by dsimp only [cq_L_150]
  have e2 : cq_L_150.2.2.1 = mu_L_150 := by dsimp only [cq_L_150]
  have e3 : cq_L_150.1 = 1252 := by dsimp only [cq_L_150]
  rw [e1, e2, e3]
  exact rf_pcs (l := al_L_150) 1 ck_L_c_150 (List.isEmpty_iff.mp ck_L_n_150)
theorem ck_L_d_151 : ∀ alt ∈ cq_L_151.2.2.2, rf_run nm_cl nm_ct en_xs 8 xx_L kc_L cu_L po_L (some .boolean) 1 0 98 16364 (some cq_L_151.2.2.1) 5000 true cq_L_151.1 alt = true := by
  have e1 : cq_L_151.2.2.2 = al_L_151 := by dsimp only [cq_L_151]
  have e2 : cq_L_151.2.2.1 = mu_L_151 := by dsimp only [cq_L_151]
  have e3 : cq_L_151.1 = 1252 := by dsimp only [cq_L_151]
  rw [e1, e2, e3]
  exact rf_pcs (l := al_L_151) 1 ck_L_c_151 (List.isEmpty_iff.mp ck_L_n_151)
theorem ck_L_d_152 : ∀ alt ∈ cq_L_152.2.2.2, rf_run nm_cl nm_ct en_xs 8 xx_L kc_L cu_L po_L (some .boolean) 1 0 98 16364 (some cq_L_152.2.2.1) 5000 true cq_L_152.1 alt = true := by
  have e1 : cq_L_152.2.2.2 = al_L_152 := by dsimp only [cq_L_152]
  have e2 : cq_L_152.2.2.1 = mu_L_152 := by dsimp only [cq_L_152]
  have e3 : cq_L_152.1 = 1252 := by dsimp only [cq_L_152]
  rw [e1, e2, e3]
  exact rf_pcs (l := al_L_152) 1 ck_L_c_152 (List.isEmpty_iff.mp ck_L_n_152)
theorem ck_L_d_153 : ∀ alt ∈ cq_L_153.2.2.2, rf_run nm_cl nm_ct en_xs 8 xx_L kc_L cu_L po_L (some .boolean) 1 0 98 16364 (some cq_L_153.2.2.1) 5000 true cq_L_153.1 alt = true := by
  have e1 : cq_L_153.2.2.2 = al_L_153 := by dsimp only [cq_L_153]
  have e2 : cq_L_153.2.2.1 = mu_L_153 := by dsimp only [cq_L_153]
  have e3 : cq_L_153.1 = 1252 := by dsimp only [cq_L_153]
  rw [e1, e2, e3]
  exact rf_pcs (l := al_L_153) 1 ck_L_c_153 (List.isEmpty_iff.mp ck_L_n_153)
theorem ck_L_d_154 : ∀ alt ∈ cq_L_154.2.2.2, rf_run nm_cl nm_ct en_xs 8 xx_L kc_L cu_L po_L (some .boolean) 1 0 98 16364 (some cq_L_154.2.2.1) 5000 true cq_L_154.1 alt = true := by
  have e1 : cq_L_154.2.2.2 = al_L_154 := by dsimp only [cq_L_154]
  have e2 : cq_L_154.2.2.1 = mu_L_154 := by dsimp only [cq_L_154]
  have e3 : cq_L_154.1 = 1252 := by dsimp only [cq_L_154]
  rw [e1, e2, e3]
  exact rf_pcs (l := al_L_154) 1 ck_L_c_154 (List.isEmpty_iff.mp ck_L_n_154)
theorem ck_L_d_155 : ∀ alt ∈ cq_L_155.2.2.2, rf_run nm_cl nm_ct en_xs 8 xx_L kc_L cu_L po_L (some .boolean) 1 0 98 16364 (some cq_L_155.2.2.1) 5000 true cq_L_155.1 alt = true := by
  have e1 : cq_L_155.2.2.2 = al_L_155 := by dsimp only [cq_L_155]
  have e2 : cq_L_155.2.2.1 = mu_L_155 := by dsimp only [cq_L_155]
  have e3 : cq_L_155.1 = 1252 := by dsimp only [cq_L_155]
  rw [e1, e2, e3]
  exact rf_pcs (l := al_L_155) 1 ck_L_c_155 (List.isEmpty_iff.mp ck_L_n_155)
theorem ck_L_d_156 : ∀ alt ∈ cq_L_156.2.2.2, rf_run nm_cl nm_ct en_xs 8 xx_L kc_L cu_L po_L (some .boolean) 1 0 98 16364 (some cq_L_156.2.2.1) 5000 true cq_L_156.1 alt = true := by
  have e1 : cq_L_156.2.2.2 = al_L_156 := by dsimp only [cq_L_156]
  have e2 : cq_L_156.2.2.1 = mu_L_156 := by dsimp only [cq_L_156]
  have e3 : cq_L_156.1 = 1256 := by dsimp only [cq_L_156]
  rw [e1, e2, e3]
  exact rf_pcs (l := al_L_156) 1 ck_L_c_156 (List.isEmpty_iff.mp ck_L_n_156)
theorem ck_L_d_157 : ∀ alt ∈ cq_L_157.2.2.2, rf_run nm_cl nm_ct en_xs 8 xx_L kc_L cu_L po_L (some .boolean) 1 0 98 16364 (some cq_L_157.2.2.1) 5000 true cq_L_157.1 alt = true := by
  have e1 : cq_L_157.2.2.2 = al_L_157 := by dsimp only [cq_L_157]
  have e2 : cq_L_157.2.2.1 = mu_L_157 := by dsimp only [cq_L_157]
  have e3 : cq_L_157.1 = 1290 := by dsimp only [cq_L_157]
  rw [e1, e2, e3]
  exact rf_pcs (l := al_L_157) 1 ck_L_c_157 (List.isEmpty_iff.mp ck_L_n_157)
theorem ck_L_d_158 : ∀ alt ∈ cq_L_158.2.2.2, rf_run nm_cl nm_ct en_xs 8 xx_L kc_L cu_L po_L (some .boolean) 1 0 98 16364 (some cq_L_158.2.2.1) 5000 true cq_L_158.1 alt = true := by
  have e1 : cq_L_158.2.2.2 = al_L_158 := by dsimp only [cq_L_158]
  have e2 : cq_L_158.2.2.1 = mu_L_158 := by dsimp only [cq_L_158]
  have e3 : cq_L_158.1 = 1290 := by dsimp only [cq_L_158]
  rw [e1, e2, e3]
  exact rf_pcs (l := al_L_158) 1 ck_L_c_158 (List.isEmpty_iff.mp ck_L_n_158)
theorem ck_L_d_159 : ∀ alt ∈ cq_L_159.2.2.2, rf_run nm_cl nm_ct en_xs 8 xx_L kc_L cu_L po_L (some .boolean) 1 0 98 16364 (some cq_L_159.2.2.1) 5000 true cq_L_159.1 alt = true := by
  have e1 : cq_L_159.2.2.2 = al_L_159 := by dsimp only [cq_L_159]
  have e2 : cq_L_159.2.2.1 = mu_L_159 := by dsimp only [cq_L_159]
  have e3 : cq_L_159.1 = 1290 := by dsimp only [cq_L_159]
  rw [e1, e2, e3]
  exact rf_pcs (l := al_L_159) 1 ck_L_c_159 (List.isEmpty_iff.mp ck_L_n_159)
theorem ck_L_d_160 : ∀ alt ∈ cq_L_160.2.2.2, rf_run nm_cl nm_ct en_xs 8 xx_L kc_L cu_L po_L (some .boolean) 1 0 98 16364 (some cq_L_160.2.2.1) 5000 true cq_L_160.1 alt = true := by
  have e1 : cq_L_160.2.2.2 = al_L_160 := by dsimp only [cq_L_160]
  have e2 : cq_L_160.2.2.1 = mu_L_160 := by dsimp only [cq_L_160]
  have e3 : cq_L_160.1 = 1290 := by dsimp only [cq_L_160]
  rw [e1, e2, e3]
  exact rf_pcs (l := al_L_160) 1 ck_L_c_160 (List.isEmpty_iff.mp ck_L_n_160)
theorem ck_L_d_161 : ∀ alt ∈ cq_L_161.2.2.2, rf_run nm_cl nm_ct en_xs 8 xx_L kc_L cu_L po_L (some .boolean) 1 0 98 16364 (some cq_L_161.2.2.1) 5000 true cq_L_161.1 alt = true := by
  have e1 : cq_L_161.2.2.2 = al_L_161 := by dsimp only [cq_L_161]
  have e2 : cq_L_161.2.2.1 = mu_L_161 := by dsimp only [cq_L_161]
  have e3 : cq_L_161.1 = 1290 := by dsimp only [cq_L_161]
  rw [e1, e2, e3]
  exact rf_pcs (l := al_L_161) 1 ck_L_c_161 (List.isEmpty_iff.mp ck_L_n_161)
theorem ck_L_d_162 : ∀ alt ∈ cq_L_162.2.2.2, rf_run nm_cl nm_ct en_xs 8 xx_L kc_L cu_L po_L (some .boolean) 1 0 98 16364 (some cq_L_162.2.2.1) 5000 true cq_L_162.1 alt = true := by
  have e1 : cq_L_162.2.2.2 = al_L_162 := by dsimp only [cq_L_162]
  have e2 : cq_L_162.2.2.1 = mu_L_162 := by dsimp only [cq_L_162]
  have e3 : cq_L_162.1 = 1290 := by dsimp only [cq_L_162]
  rw [e1, e2, e3]
  exact rf_pcs (l := al_L_162) 1 ck_L_c_162 (List.isEmpty_iff.mp ck_L_n_162)
theorem ck_L_d_163 : ∀ alt ∈ cq_L_163.2.2.2, rf_run nm_cl nm_ct en_xs 8 xx_L kc_L cu_L po_L (some .boolean) 1 0 98 16364 (some cq_L_163.2.2.1) 5000 true cq_L_163.1 alt = true := by
  have e1 : cq_L_163.2.2.2 = al_L_163 := by dsimp only [cq_L_163]
  have e2 : cq_L_163.2.2.1 = mu_L_163 := by dsimp only [cq_L_163]
  have e3 : cq_L_163.1 = 1290 := by dsimp only [cq_L_163]
  rw [e1, e2, e3]
  exact rf_pcs (l := al_L_163) 1 ck_L_c_163 (List.isEmpty_iff.mp ck_L_n_163)
theorem ck_L_d_164 : ∀ alt ∈ cq_L_164.2.2.2, rf_run nm_cl nm_ct en_xs 8 xx_L kc_L cu_L po_L (some .boolean) 1 0 98 16364 (some cq_L_164.2.2.1) 5000 true cq_L_164.1 alt = true := by
  have e1 : cq_L_164.2.2.2 = al_L_164 := by dsimp only [cq_L_164]
  have e2 : cq_L_164.2.2.1 = mu_L_164 := by dsimp only [cq_L_164]
  have e3 : cq_L_164.1 = 1290 := by dsimp only [cq_L_164]
  rw [e1, e2, e3]
  exact rf_pcs (l := al_L_164) 1 ck_L_c_164 (List.isEmpty_iff.mp ck_L_n_164)
theorem ck_L_d_165 : ∀ alt ∈ cq_L_165.2.2.2, rf_run nm_cl nm_ct en_xs 8 xx_L kc_L cu_L po_L (some .boolean) 1 0 98 16364 (some cq_L_165.2.2.1) 5000 true cq_L_165.1 alt = true := by
  have e1 : cq_L_165.2.2.2 = al_L_165 := by dsimp only [cq_L_165]
  have e2 : cq_L_165.2.2.1 = mu_L_165 := by dsimp only [cq_L_165]
  have e3 : cq_L_165.1 = 1290 := by dsimp only [cq_L_165]
  rw [e1, e2, e3]
  exact rf_pcs (l := al_L_165) 1 ck_L_c_165 (List.isEmpty_iff.mp ck_L_n_165)
theorem ck_L_d_166 : ∀ alt ∈ cq_L_166.2.2.2, rf_run nm_cl nm_ct en_xs 8 xx_L kc_L cu_L po_L (some .boolean) 1 0 98 16364 (some cq_L_166.2.2.1) 5000 true cq_L_166.1 alt = true := by
  have e1 : cq_L_166.2.2.2 = al_L_166 := by dsimp only [cq_L_166]
  have e2 : cq_L_166.2.2.1 = mu_L_166 := by dsimp only [cq_L_166]
  have e3 : cq_L_166.1 = 1290 := by dsimp only [cq_L_166]
  rw [e1, e2, e3]
  exact rf_pcs (l := al_L_166) 1 ck_L_c_166 (List.isEmpty_iff.mp ck_L_n_166)
theorem ck_L_d_167 : ∀ alt ∈ cq_L_167.2.2.2, rf_run nm_cl nm_ct en_xs 8 xx_L kc_L cu_L po_L (some .boolean) 1 0 98 16364 (some cq_L_167.2.2.1) 5000 true cq_L_167.1 alt = true := by
  have e1 : cq_L_167.2.2.2 = al_L_167 := by dsimp only [cq_L_167]
  have e2 : cq_L_167.2.2.1 = mu_L_167 := by dsimp only [cq_L_167]
  have e3 : cq_L_167.1 = 1290 := by dsimp only [cq_L_167]
  rw [e1, e2, e3]
  exact rf_pcs (l := al_L_167) 1 ck_L_c_167 (List.isEmpty_iff.mp ck_L_n_167)
theorem ck_L_d_168 : ∀ alt ∈ cq_L_168.2.2.2, rf_run nm_cl nm_ct en_xs 8 xx_L kc_L cu_L po_L (some .boolean) 1 0 98 16364 (some cq_L_168.2.2.1) 5000 true cq_L_168.1 alt = true := by
  have e1 : cq_L_168.2.2.2 = al_L_168 := by dsimp only [cq_L_168]
  have e2 : cq_L_168.2.2.1 = mu_L_168 := by dsimp only [cq_L_168]
  have e3 : cq_L_168.1 = 1290 := by dsimp only [cq_L_168]
  rw [e1, e2, e3]
  exact rf_pcs (l := al_L_168) 1 ck_L_c_168 (List.isEmpty_iff.mp ck_L_n_168)
theorem ck_L_d_169 : ∀ alt ∈ cq_L_169.2.2.2, rf_run nm_cl nm_ct en_xs 8 xx_L kc_L cu_L po_L (some .boolean) 1 0 98 16364 (some cq_L_169.2.2.1) 5000 true cq_L_169.1 alt = true := by
  have e1 : cq_L_169.2.2.2 = al_L_169 := by dsimp only [cq_L_169]
  have e2 : cq_L_169.2.2.1 = mu_L_169 := by dsimp only [cq_L_169]
  have e3 : cq_L_169.1 = 1325 := by dsimp only [cq_L_169]
  rw [e1, e2, e3]
  exact rf_pcs (l := al_L_169) 1 ck_L_c_169 (List.isEmpty_iff.mp ck_L_n_169)
theorem ck_L_d_170 : ∀ alt ∈ cq_L_170.2.2.2, rf_run nm_cl nm_ct en_xs 8 xx_L kc_L cu_L po_L (some .boolean) 1 0 98 16364 (some cq_L_170.2.2.1) 5000 true cq_L_170.1 alt = true := by
  have e1 : cq_L_170.2.2.2 = al_L_170 := by dsimp only [cq_L_170]
  have e2 : cq_L_170.2.2.1 = mu_L_170 := by dsimp only [cq_L_170]
  have e3 : cq_L_170.1 = 1325 := by dsimp only [cq_L_170]
  rw [e1, e2, e3]
  exact rf_pcs (l := al_L_170) 1 ck_L_c_170 (List.isEmpty_iff.mp ck_L_n_170)
theorem ck_L_d_171 : ∀ alt ∈ cq_L_171.2.2.2, rf_run nm_cl nm_ct en_xs 8 xx_L kc_L cu_L po_L (some .boolean) 1 0 98 16364 (some cq_L_171.2.2.1) 5000 true cq_L_171.1 alt = true := by
  have e1 : cq_L_171.2.2.2 = al_L_171 := by dsimp only [cq_L_171]
  have e2 : cq_L_171.2.2.1 = mu_L_171 := by dsimp only [cq_L_171]
  have e3 : cq_L_171.1 = 1325 := by dsimp only [cq_L_171]
  rw [e1, e2, e3]
  exact rf_pcs (l := al_L_171) 1 ck_L_c_171 (List.isEmpty_iff.mp ck_L_n_171)
theorem ck_L_d_172 : ∀ alt ∈ cq_L_172.2.2.2, rf_run nm_cl nm_ct en_xs 8 xx_L kc_L cu_L po_L (some .boolean) 1 0 98 16364 (some cq_L_172.2.2.1) 5000 true cq_L_172.1 alt = true := by
  have e1 : cq_L_172.2.2.2 = al_L_172 := by dsimp only [cq_L_172]
  have e2 : cq_L_172.2.2.1 = mu_L_172 := by dsimp only [cq_L_172]
  have e3 : cq_L_172.1 = 1325 := by dsimp only [cq_L_172]
  rw [e1, e2, e3]
  exact rf_pcs (l := al_L_172) 1 ck_L_c_172 (List.isEmpty_iff.mp ck_L_n_172)
theorem ck_L_d_173 : ∀ alt ∈ cq_L_173.2.2.2, rf_run nm_cl nm_ct en_xs 8 xx_L kc_L cu_L po_L (some .boolean) 1 0 98 16364 (some cq_L_173.2.2.1) 5000 true cq_L_173.1 alt = true := by
  have e1 : cq_L_173.2.2.2 = al_L_173 := by dsimp only [cq_L_173]
  have e2 : cq_L_173.2.2.1 = mu_L_173 := by dsimp only [cq_L_173]
  have e3 : cq_L_173.1 = 1325 := by dsimp only [cq_L_173]
  rw [e1, e2, e3]
  exact rf_pcs (l := al_L_173) 1 ck_L_c_173 (List.isEmpty_iff.mp ck_L_n_173)
theorem ck_L_d_174 : ∀ alt ∈ cq_L_174.2.2.2, rf_run nm_cl nm_ct en_xs 8 xx_L kc_L cu_L po_L (some .boolean) 1 0 98 16364 (some cq_L_174.2.2.1) 5000 true cq_L_174.1 alt = true := by
  have e1 : cq_L_174.2.2.2 = al_L_174 := by dsimp only [cq_L_174]
  have e2 : cq_L_174.2.2.1 = mu_L_174 := by dsimp only [cq_L_174]
  have e3 : cq_L_174.1 = 1325 := by dsimp only [cq_L_174]
  rw [e1, e2, e3]
  exact rf_pcs (l := al_L_174) 1 ck_L_c_174 (List.isEmpty_iff.mp ck_L_n_174)
theorem ck_L_d_175 : ∀ alt ∈ cq_L_175.2.2.2, rf_run nm_cl nm_ct en_xs 8 xx_L kc_L cu_L po_L (some .boolean) 1 0 98 16364 (some cq_L_175.2.2.1) 5000 true cq_L_175.1 alt = true := by
  have e1 : cq_L_175.2.2.2 = al_L_175 := by dsimp only [cq_L_175]
  have e2 : cq_L_175.2.2.1 = mu_L_175 := by dsimp only [cq_L_175]
  have e3 : cq_L_175.1 = 1325 := by dsimp only [cq_L_175]
  rw [e1, e2, e3]
  exact rf_pcs (l := al_L_175) 1 ck_L_c_175 (List.isEmpty_iff.mp ck_L_n_175)
theorem ck_L_d_176 : ∀ alt ∈ cq_L_176.2.2.2, rf_run nm_cl nm_ct en_xs 8 xx_L kc_L cu_L po_L (some .boolean) 1 0 98 16364 (some cq_L_176.2.2.1) 5000 true cq_L_176.1 alt = true := by
  have e1 : cq_L_176.2.2.2 = al_L_176 := by dsimp only [cq_L_176]
  have e2 : cq_L_176.2.2.1 = mu_L_176 := by dsimp only [cq_L_176]
  have e3 : cq_L_176.1 = 1325 := by dsimp only [cq_L_176]
  rw [e1, e2, e3]
  exact rf_pcs (l := al_L_176) 1 ck_L_c_176 (List.isEmpty_iff.mp ck_L_n_176)
theorem ck_L_d_177 : ∀ alt ∈ cq_L_177.2.2.2, rf_run nm_cl nm_ct en_xs 8 xx_L kc_L cu_L po_L (some .boolean) 1 0 98 16364 (some cq_L_177.2.2.1) 5000 true cq_L_177.1 alt = true := by
  have e1 : cq_L_177.2.2.2 = al_L_177 := by dsimp only [cq_L_177]
  have e2 : cq_L_177.2.2.1 = mu_L_177 := by dsimp only [cq_L_177]
  have e3 : cq_L_177.1 = 1325 := by dsimp only [cq_L_177]
  rw [e1, e2, e3]
  exact rf_pcs (l := al_L_177) 1 ck_L_c_177 (List.isEmpty_iff.mp ck_L_n_177)
theorem ck_L_d_178 : ∀ alt ∈ cq_L_178.2.2.2, rf_run nm_cl nm_ct en_xs 8 xx_L kc_L cu_L po_L (some .boolean) 1 0 98 16364 (some cq_L_178.2.2.1) 5000 true cq_L_178.1 alt = true := by
  have e1 : cq_L_178.2.2.2 = al_L_178 := by dsimp only [cq_L_178]
  have e2 : cq_L_178.2.2.1 = mu_L_178 := by dsimp only [cq_L_178]
  have e3 : cq_L_178.1 = 1325 := by dsimp only [cq_L_178]
  rw [e1, e2, e3]
  exact rf_pcs (l := al_L_178) 1 ck_L_c_178 (List.isEmpty_iff.mp ck_L_n_178)
theorem ck_L_d_179 : ∀ alt ∈ cq_L_179.2.2.2, rf_run nm_cl nm_ct en_xs 8 xx_L kc_L cu_L po_L (some .boolean) 1 0 98 16364 (some cq_L_179.2.2.1) 5000 true cq_L_179.1 alt = true := by
  have e1 : cq_L_179.2.2.2 = al_L_179 := by dsimp only [cq_L_179]
  have e2 : cq_L_179.2.2.1 = mu_L_179 := by dsimp only [cq_L_179]
  have e3 : cq_L_179.1 = 1325 := by dsimp only [cq_L_179]
  rw [e1, e2, e3]
  exact rf_pcs (l := al_L_179) 1 ck_L_c_179 (List.isEmpty_iff.mp ck_L_n_179)
theorem ck_L_d_180 : ∀ alt ∈ cq_L_180.2.2.2, rf_run nm_cl nm_ct en_xs 8 xx_L kc_L cu_L po_L (some .boolean) 1 0 98 16364 (some cq_L_180.2.2.1) 5000 true cq_L_180.1 alt = true := by
  have e1 : cq_L_180.2.2.2 = al_L_180 := by dsimp only [cq_L_180]
  have e2 : cq_L_180.2.2.1 = mu_L_180 := by dsimp only [cq_L_180]
  have e3 : cq_L_180.1 = 1325 := by dsimp only [cq_L_180]
  rw [e1, e2, e3]
  exact rf_pcs (l := al_L_180) 1 ck_L_c_180 (List.isEmpty_iff.mp ck_L_n_180)
theorem ck_L_d_181 : ∀ alt ∈ cq_L_181.2.2.2, rf_run nm_cl nm_ct en_xs 8 xx_L kc_L cu_L po_L (some .boolean) 1 0 98 16364 (some cq_L_181.2.2.1) 5000 true cq_L_181.1 alt = true := by
  have e1 : cq_L_181.2.2.2 = al_L_181 := by dsimp only [cq_L_181]
  have e2 : cq_L_181.2.2.1 = mu_L_181 := by dsimp only [cq_L_181]
  have e3 : cq_L_181.1 = 1329 := by dsimp only [cq_L_181]
  rw [e1, e2, e3]
  exact rf_pcs (l := al_L_181) 1 ck_L_c_181 (List.isEmpty_iff.mp ck_L_n_181)
theorem ck_L_d_182 : ∀ alt ∈ cq_L_182.2.2.2, rf_run nm_cl nm_ct en_xs 8 xx_L kc_L cu_L po_L (some .boolean) 1 0 98 16364 (some cq_L_182.2.2.1) 5000 true cq_L_182.1 alt = true := by
  have e1 : cq_L_182.2.2.2 = al_L_182 := by dsimp only [cq_L_182]
  have e2 : cq_L_182.2.2.1 = mu_L_182 := by dsimp only [cq_L_182]
  have e3 : cq_L_182.1 = 1358 := by dsimp only [cq_L_182]
  rw [e1, e2, e3]
  exact rf_pcs (l := al_L_182) 1 ck_L_c_182 (List.isEmpty_iff.mp ck_L_n_182)
theorem ck_L_d_183 : ∀ alt ∈ cq_L_183.2.2.2, rf_run nm_cl nm_ct en_xs 8 xx_L kc_L cu_L po_L (some .boolean) 1 0 98 16364 (some cq_L_183.2.2.1) 5000 true cq_L_183.1 alt = true := by
  have e1 : cq_L_183.2.2.2 = al_L_183 := by dsimp only [cq_L_183]
  have e2 : cq_L_183.2.2.1 = mu_L_183 := by dsimp only [cq_L_183]
  have e3 : cq_L_183.1 = 1358 := by dsimp only [cq_L_183]
  rw [e1, e2, e3]
  exact rf_pcs (l := al_L_183) 1 ck_L_c_183 (List.isEmpty_iff.mp ck_L_n_183)
theorem ck_L_d_184 : ∀ alt ∈ cq_L_184.2.2.2, rf_run nm_cl nm_ct en_xs 8 xx_L kc_L cu_L po_L (some .boolean) 1 0 98 16364 (some cq_L_184.2.2.1) 5000 true cq_L_184.1 alt = true := by
  have e1 : cq_L_184.2.2.2 = al_L_184 := by dsimp only [cq_L_184]
  have e2 : cq_L_184.2.2.1 = mu_L_184 := by dsimp only [cq_L_184]
  have e3 : cq_L_184.1 = 1358 := by dsimp only [cq_L_184]
  rw [e1, e2, e3]
  exact rf_pcs (l := al_L_184) 1 ck_L_c_184 (List.isEmpty_iff.mp ck_L_n_184)
theorem ck_L_d_185 : ∀ alt ∈ cq_L_185.2.2.2, rf_run nm_cl nm_ct en_xs 8 xx_L kc_L cu_L po_L (some .boolean) 1 0 98 16364 (some cq_L_185.2.2.1) 5000 true cq_L_185.1 alt = true := by
  have e1 : cq_L_185.2.2.2 = al_L_185 := by dsimp only [cq_L_185]
  have e2 : cq_L_185.2.2.1 = mu_L_185 := by dsimp only [cq_L_185]
  have e3 : cq_L_185.1 = 1358 := by dsimp only [cq_L_185]
  rw [e1, e2, e3]
  exact rf_pcs (l := al_L_185) 1 ck_L_c_185 (List.isEmpty_iff.mp ck_L_n_185)
theorem ck_L_d_186 : ∀ alt ∈ cq_L_186.2.2.2, rf_run nm_cl nm_ct en_xs 8 xx_L kc_L cu_L po_L (some .boolean) 1 0 98 16364 (some cq_L_186.2.2.1) 5000 true cq_L_186.1 alt = true := by
  have e1 : cq_L_186.2.2.2 = al_L_186 := by dsimp only [cq_L_186]
  have e2 : cq_L_186.2.2.1 = mu_L_186 := by dsimp only [cq_L_186]
  have e3 : cq_L_186.1 = 1358 := by dsimp only [cq_L_186]
  rw [e1, e2, e3]
  exact rf_pcs (l := al_L_186) 1 ck_L_c_186 (List.isEmpty_iff.mp ck_L_n_186)
theorem ck_L_d_187 : ∀ alt ∈ cq_L_187.2.2.2, rf_run nm_cl nm_ct en_xs 8 xx_L kc_L cu_L po_L (some .boolean) 1 0 98 16364 (some cq_L_187.2.2.1) 5000 true cq_L_187.1 alt = true := by
  have e1 : cq_L_187.2.2.2 = al_L_187 := by dsimp only [cq_L_187]
  have e2 : cq_L_187.2.2.1 = mu_L_187 := by dsimp only [cq_L_187]
  have e3 : cq_L_187.1 = 1358 := by dsimp only [cq_L_187]
  rw [e1, e2, e3]
  exact rf_pcs (l := al_L_187) 1 ck_L_c_187 (List.isEmpty_iff.mp ck_L_n_187)
theorem ck_L_d_188 : ∀ alt ∈ cq_L_188.2.2.2, rf_run nm_cl nm_ct en_xs 8 xx_L kc_L cu_L po_L (some .boolean) 1 0 98 16364 (some cq_L_188.2.2.1) 5000 true cq_L_188.1 alt = true := by
  have e1 : cq_L_188.2.2.2 = al_L_188 := by dsimp only [cq_L_188]
  have e2 : cq_L_188.2.2.1 = mu_L_188 := by dsimp only [cq_L_188]
  have e3 : cq_L_188.1 = 1358 := by dsimp only [cq_L_188]
  rw [e1, e2, e3]
  exact rf_pcs (l := al_L_188) 1 ck_L_c_188 (List.isEmpty_iff.mp ck_L_n_188)
theorem ck_L_d_189 : ∀ alt ∈ cq_L_189.2.2.2, rf_run nm_cl nm_ct en_xs 8 xx_L kc_L cu_L po_L (some .boolean) 1 0 98 16364 (some cq_L_189.2.2.1) 5000 true cq_L_189.1 alt = true := by
  have e1 : cq_L_189.2.2.2 = al_L_189 := by dsimp only [cq_L_189]
  have e2 : cq_L_189.2.2.1 = mu_L_189 := by dsimp only [cq_L_189]
  have e3 : cq_L_189.1 = 1358 := by dsimp only [cq_L_189]
  rw [e1, e2, e3]
  exact rf_pcs (l := al_L_189) 1 ck_L_c_189 (List.isEmpty_iff.mp ck_L_n_189)
theorem ck_L_d_190 : ∀ alt ∈ cq_L_190.2.2.2, rf_run nm_cl nm_ct en_xs 8 xx_L kc_L cu_L po_L (some .boolean) 1 0 98 16364 (some cq_L_190.2.2.1) 5000 true cq_L_190.1 alt = true := by
  have e1 : cq_L_190.2.2.2 = al_L_190 := by dsimp only [cq_L_190]
  have e2 : cq_L_190.2.2.1 = mu_L_190 := by dsimp only [cq_L_190]
  have e3 : cq_L_190.1 = 1362 := by dsimp only [cq_L_190]
  rw [e1, e2, e3]
  exact rf_pcs (l := al_L_190) 1 ck_L_c_190 (List.isEmpty_iff.mp ck_L_n_190)
theorem ck_L_d_191 : ∀ alt ∈ cq_L_191.2.2.2, rf_run nm_cl nm_ct en_xs 8 xx_L kc_L cu_L po_L (some .boolean) 1 0 98 16364 (some cq_L_191.2.2.1) 5000 true cq_L_191.1 alt = true := by
  have e1 : cq_L_191.2.2.2 = al_L_191 := by dsimp only [cq_L_191]
  have e2 : cq_L_191.2.2.1 = mu_L_191 := by dsimp only [cq_L_191]
  have e3 : cq_L_191.1 = 1391 := by dsimp only [cq_L_191]
  rw [e1, e2, e3]
  exact rf_pcs (l := al_L_191) 1 ck_L_c_191 (List.isEmpty_iff.mp ck_L_n_191)
theorem ck_L_d_192 : ∀ alt ∈ cq_L_192.2.2.2, rf_run nm_cl nm_ct en_xs 8 xx_L kc_L cu_L po_L (some .boolean) 1 0 98 16364 (some cq_L_192.2.2.1) 5000 true cq_L_192.1 alt = true := by
  have e1 : cq_L_192.2.2.2 = al_L_192 := by dsimp only [cq_L_192]
  have e2 : cq_L_192.2.2.1 = mu_L_192 := by dsimp only [cq_L_192]
  have e3 : cq_L_192.1 = 1391 := by dsimp only [cq_L_192]
  rw [e1, e2, e3]
  exact rf_pcs (l := al_L_192) 1 ck_L_c_192 (List.isEmpty_iff.mp ck_L_n_192)
theorem ck_L_d_193 : ∀ alt ∈ cq_L_193.2.2.2, rf_run nm_cl nm_ct en_xs 8 xx_L kc_L cu_L po_L (some .boolean) 1 0 98 16364 (some cq_L_193.2.2.1) 5000 true cq_L_193.1 alt = true := by
  have e1 : cq_L_193.2.2.2 = al_L_193 := by dsimp only [cq_L_193]
  have e2 : cq_L_193.2.2.1 = mu_L_193 := by dsimp only [cq_L_193]
  have e3 : cq_L_193.1 = 1391 := by dsimp only [cq_L_193]
  rw [e1, e2, e3]
  exact rf_pcs (l := al_L_193) 1 ck_L_c_193 (List.isEmpty_iff.mp ck_L_n_193)
theorem ck_L_d_194 : ∀ alt ∈ cq_L_194.2.2.2, rf_run nm_cl nm_ct en_xs 8 xx_L kc_L cu_L po_L (some .boolean) 1 0 98 16364 (some cq_L_194.2.2.1) 5000 true cq_L_194.1 alt = true := by
  have e1 : cq_L_194.2.2.2 = al_L_194 := by dsimp only [cq_L_194]
  have e2 : cq_L_194.2.2.1 = mu_L_194 := by dsimp only [cq_L_194]
  have e3 : cq_L_194.1 = 1391 := by dsimp only [cq_L_194]
  rw [e1, e2, e3]
  exact rf_pcs (l := al_L_194) 1 ck_L_c_194 (List.isEmpty_iff.mp ck_L_n_194)
theorem ck_L_d_195 : ∀ alt ∈ cq_L_195.2.2.2, rf_run nm_cl nm_ct en_xs 8 xx_L kc_L cu_L po_L (some .boolean) 1 0 98 16364 (some cq_L_195.2.2.1) 5000 true cq_L_195.1 alt = true := by
  have e1 : cq_L_195.2.2.2 = al_L_195 := by dsimp only [cq_L_195]
  have e2 : cq_L_195.2.2.1 = mu_L_195 := by dsimp only [cq_L_195]
  have e3 : cq_L_195.1 = 1391 := by dsimp only [cq_L_195]
  rw [e1, e2, e3]
  exact rf_pcs (l := al_L_195) 1 ck_L_c_195 (List.isEmpty_iff.mp ck_L_n_195)
theorem ck_L_d_196 : ∀ alt ∈ cq_L_196.2.2.2, rf_run nm_cl nm_ct en_xs 8 xx_L kc_L cu_L po_L (some .boolean) 1 0 98 16364 (some cq_L_196.2.2.1) 5000 true cq_L_196.1 alt = true := by
  have e1 : cq_L_196.2.2.2 = al_L_196 := by dsimp only [cq_L_196]
  have e2 : cq_L_196.2.2.1 = mu_L_196 := by dsimp only [cq_L_196]
  have e3 : cq_L_196.1 = 1391 := by dsimp only [cq_L_196]
  rw [e1, e2, e3]
  exact rf_pcs (l := al_L_196) 1 ck_L_c_196 (List.isEmpty_iff.mp ck_L_n_196)
theorem ck_L_d_197 : ∀ alt ∈ cq_L_197.2.2.2, rf_run nm_cl nm_ct en_xs 8 xx_L kc_L cu_L po_L (some .boolean) 1 0 98 16364 (some cq_L_197.2.2.1) 5000 true cq_L_197.1 alt = true := by
  have e1 : cq_L_197.2.2.2 = al_L_197 := by dsimp only [cq_L_197]
  have e2 : cq_L_197.2.2.1 = mu_L_197 := by dsimp only [cq_L_197]
  have e3 : cq_L_197.1 = 1391 := by dsimp only [cq_L_197]
  rw [e1, e2, e3]
  exact rf_pcs (l := al_L_197) 1 ck_L_c_197 (List.isEmpty_iff.mp ck_L_n_197)
theorem ck_L_d_198 : ∀ alt ∈ cq_L_198.2.2.2, rf_run nm_cl nm_ct en_xs 8 xx_L kc_L cu_L po_L (some .boolean) 1 0 98 16364 (some cq_L_198.2.2.1) 5000 true cq_L_198.1 alt = true := by
  have e1 : cq_L_198.2.2.2 = al_L_198 := by dsimp only [cq_L_198]
  have e2 : cq_L_198.2.2.1 = mu_L_198 := by dsimp only [cq_L_198]
  have e3 : cq_L_198.1 = 1391 := by dsimp only [cq_L_198]
  rw [e1, e2, e3]
  exact rf_pcs (l := al_L_198) 1 ck_L_c_198 (List.isEmpty_iff.mp ck_L_n_198)
theorem ck_L_d_199 : ∀ alt ∈ cq_L_199.2.2.2, rf_run nm_cl nm_ct en_xs 8 xx_L kc_L cu_L po_L (some .boolean) 1 0 98 16364 (some cq_L_199.2.2.1) 5000 true cq_L_199.1 alt = true := by
  have e1 : cq_L_199.2.2.2 = al_L_199 := by dsimp only [cq_L_199]
  have e2 : cq_L_199.2.2.1 = mu_L_199 := by dsimp only [cq_L_199]
  have e3 : cq_L_199.1 = 1391 := by dsimp only [cq_L_199]
  rw [e1, e2, e3]
  exact rf_pcs (l := al_L_199) 1 ck_L_c_199 (List.isEmpty_iff.mp ck_L_n_199)
theorem ck_L_d_200 : ∀ alt ∈ cq_L_200.2.2.2, rf_run nm_cl nm_ct en_xs 8 xx_L kc_L cu_L po_L (some .boolean) 1 0 98 16364 (some cq_L_200.2.2.1) 5000 true cq_L_200.1 alt = true := by
  have e1 : cq_L_200.2.2.2 = al_L_200 := by dsimp only [cq_L_200]
  have e2 : cq_L_200.2.2.1 = mu_L_200 := by dsimp only [cq_L_200]
  have e3 : cq_L_200.1 = 1391 := by dsimp only [cq_L_200]
  rw [e1, e2, e3]
  exact rf_pcs (l := al_L_200) 1 ck_L_c_200 (List.isEmpty_iff.mp ck_L_n_200)
theorem ck_L_d_201 : ∀ alt ∈ cq_L_201.2.2.2, rf_run nm_cl nm_ct en_xs 8 xx_L kc_L cu_L po_L (some .boolean) 1 0 98 16364 (some cq_L_201.2.2.1) 5000 true cq_L_201.1 alt = true := by
  have e1 : cq_L_201.2.2.2 = al_L_201 := by dsimp only [cq_L_201]
  have e2 : cq_L_201.2.2.1 = mu_L_201 := by dsimp only [cq_L_201]
  have e3 : cq_L_201.1 = 1391 := by dsimp only [cq_L_201]
  rw [e1, e2, e3]
  exact rf_pcs (l := al_L_201) 1 ck_L_c_201 (List.isEmpty_iff.mp ck_L_n_201)
theorem ck_L_d_202 : ∀ alt ∈ cq_L_202.2.2.2, rf_run nm_cl nm_ct en_xs 8 xx_L kc_L cu_L po_L (some .boolean) 1 0 98 16364 (some cq_L_202.2.2.1) 5000 true cq_L_202.1 alt = true := by
  have e1 : cq_L_202.2.2.2 = al_L_202 := by dsimp only [cq_L_202]
  have e2 : cq_L_202.2.2.1 = mu_L_202 := by dsimp only [cq_L_202]
  have e3 : cq_L_202.1 = 1391 := by dsimp only [cq_L_202]
  rw [e1, e2, e3]
  exact rf_pcs (l := al_L_202) 1 ck_L_c_202 (List.isEmpty_iff.mp ck_L_n_202)
theorem ck_L_d_203 : ∀ alt ∈ cq_L_203.2.2.2, rf_run nm_cl nm_ct en_xs 8 xx_L kc_L cu_L po_L (some .boolean) 1 0 98 16364 (some cq_L_203.2.2.1) 5000 true cq_L_203.1 alt = true := by
  have e1 : cq_L_203.2.2.2 = al_L_203 := by dsimp only [cq_L_203]
  have e2 : cq_L_203.2.2.1 = mu_L_203 := by dsimp only [cq_L_203]
  have e3 : cq_L_203.1 = 1391 := by dsimp only [cq_L_203]
  rw [e1, e2, e3]
  exact rf_pcs (l := al_L_203) 1 ck_L_c_203 (List.isEmpty_iff.mp ck_L_n_203)
theorem ck_L_d_204 : ∀ alt ∈ cq_L_204.2.2.2, rf_run nm_cl nm_ct en_xs 8 xx_L kc_L cu_L po_L (some .boolean) 1 0 98 16364 (some cq_L_204.2.2.1) 5000 true cq_L_204.1 alt = true := by
  have e1 : cq_L_204.2.2.2 = al_L_204 := by dsimp only [cq_L_204]
  have e2 : cq_L_204.2.2.1 = mu_L_204 := by dsimp only [cq_L_204]
  have e3 : cq_L_204.1 = 1391 := by dsimp only [cq_L_204]
  rw [e1, e2, e3]
  exact rf_pcs (l := al_L_204) 1 ck_L_c_204 (List.isEmpty_iff.mp ck_L_n_204)
theorem ck_L_d_205 : ∀ alt ∈ cq_L_205.2.2.2, rf_run nm_cl nm_ct en_xs 8 xx_L kc_L cu_L po_L (some .boolean) 1 0 98 16364 (some cq_L_205.2.2.1) 5000 true cq_L_205.1 alt = true := by
  have e1 : cq_L_205.2.2.2 = al_L_205 := by dsimp only [cq_L_205]
  have e2 : cq_L_205.2.2.1 = mu_L_205 := by dsimp only [cq_L_205]
  have e3 : cq_L_205.1 = 1391 := by dsimp only [cq_L_205]
  rw [e1, e2, e3]
  exact rf_pcs (l := al_L_205) 1 ck_L_c_205 (List.isEmpty_iff.mp ck_L_n_205)
theorem ck_L_d_206 : ∀ alt ∈ cq_L_206.2.2.2, rf_run nm_cl nm_ct en_xs 8 xx_L kc_L cu_L po_L (some .boolean) 1 0 98 16364 (some cq_L_206.2.2.1) 5000 true cq_L_206.1 alt = true := by
  have e1 : cq_L_206.2.2.2 = al_L_206 := by dsimp only [cq_L_206]
  have e2 : cq_L_206.2.2.1 = mu_L_206 := by dsimp only [cq_L_206]
  have e3 : cq_L_206.1 = 1391 := by dsimp only [cq_L_206]
  rw [e1, e2, e3]
  exact rf_pcs (l := al_L_206) 1 ck_L_c_206 (List.isEmpty_iff.mp ck_L_n_206)
theorem ck_L_d_207 : ∀ alt ∈ cq_L_207.2.2.2, rf_run nm_cl nm_ct en_xs 8 xx_L kc_L cu_L po_L (some .boolean) 1 0 98 16364 (some cq_L_207.2.2.1) 5000 true cq_L_207.1 alt = true := by
  have e1 : cq_L_207.2.2.2 = al_L_207 := by dsimp only [cq_L_207]
  have e2 : cq_L_207.2.2.1 = mu_L_207 := by dsimp only [cq_L_207]
  have e3 : cq_L_207.1 = 1391 := by dsimp only [cq_L_207]
  rw [e1, e2, e3]
  exact rf_pcs (l := al_L_207) 1 ck_L_c_207 (List.isEmpty_iff.mp ck_L_n_207)
theorem ck_L_d_208 : ∀ alt ∈ cq_L_208.2.2.2, rf_run nm_cl nm_ct en_xs 8 xx_L kc_L cu_L po_L (some .boolean) 1 0 98 16364 (some cq_L_208.2.2.1) 5000 true cq_L_208.1 alt = true := by
  have e1 : cq_L_208.2.2.2 = al_L_208 := by dsimp only [cq_L_208]
  have e2 : cq_L_208.2.2.1 = mu_L_208 := by dsimp only [cq_L_208]
  have e3 : cq_L_208.1 = 1391 := by dsimp only [cq_L_208]
  rw [e1, e2, e3]
  exact rf_pcs (l := al_L_208) 1 ck_L_c_208 (List.isEmpty_iff.mp ck_L_n_208)
theorem ck_L_d_209 : ∀ alt ∈ cq_L_209.2.2.2, rf_run nm_cl nm_ct en_xs 8 xx_L kc_L cu_L po_L (some .boolean) 1 0 98 16364 (some cq_L_209.2.2.1) 5000 true cq_L_209.1 alt = true := by
  have e1 : cq_L_209.2.2.2 = al_L_209 := by dsimp only [cq_L_209]
  have e2 : cq_L_209.2.2.1 = mu_L_209 := by dsimp only [cq_L_209]
  have e3 : cq_L_209.1 = 1391 := by dsimp only [cq_L_209]
  rw [e1, e2, e3]
  exact rf_pcs (l := al_L_209) 1 ck_L_c_209 (List.isEmpty_iff.mp ck_L_n_209)
theorem ck_L_d_210 : ∀ alt ∈ cq_L_210.2.2.2, rf_run nm_cl nm_ct en_xs 8 xx_L kc_L cu_L po_L (some .boolean) 1 0 98 16364 (some cq_L_210.2.2.1) 5000 true cq_L_210.1 alt = true := by
  have e1 : cq_L_210.2.2.2 = al_L_210 := by dsimp only [cq_L_210]
  have e2 : cq_L_210.2.2.1 = mu_L_210 := by dsimp only [cq_L_210]
  have e3 : cq_L_210.1 = 1391 := by dsimp only [cq_L_210]
  rw [e1, e2, e3]
  exact rf_pcs (l := al_L_210) 1 ck_L_c_210 (List.isEmpty_iff.mp ck_L_n_210)
theorem ck_L_d_211 : ∀ alt ∈ cq_L_211.2.2.2, rf_run nm_cl nm_ct en_xs 8 xx_L kc_L cu_L po_L (some .boolean) 1 0 98 16364 (some cq_L_211.2.2.1) 5000 true cq_L_211.1 alt = true := by
  have e1 : cq_L_211.2.2.2 = al_L_211 := by dsimp only [cq_L_211]
  have e2 : cq_L_211.2.2.1 = mu_L_211 := by dsimp only [cq_L_211]
  have e3 : cq_L_211.1 = 1391 := by dsimp only [cq_L_211]
  rw [e1, e2, e3]
  exact rf_pcs (l := al_L_211) 1 ck_L_c_211 (List.isEmpty_iff.mp ck_L_n_211)
theorem ck_L_d_212 : ∀ alt ∈ cq_L_212.2.2.2, rf_run nm_cl nm_ct en_xs 8 xx_L kc_L cu_L po_L (some .boolean) 1 0 98 16364 (some cq_L_212.2.2.1) 5000 true cq_L_212.1 alt = true := by
  have e1 : cq_L_212.2.2.2 = al_L_212 := by dsimp only [cq_L_212]
  have e2 : cq_L_212.2.2.1 = mu_L_212 := by dsimp only [cq_L_212]
  have e3 : cq_L_212.1 = 1391 := by dsimp only [cq_L_212]
  rw [e1, e2, e3]
  exact rf_pcs (l := al_L_212) 1 ck_L_c_212 (List.isEmpty_iff.mp ck_L_n_212)
theorem ck_L_d_213 : ∀ alt ∈ cq_L_213.2.2.2, rf_run nm_cl nm_ct en_xs 8 xx_L kc_L cu_L po_L (some .boolean) 1 0 98 16364 (some cq_L_213.2.2.1) 5000 true cq_L_213.1 alt = true := by
  have e1 : cq_L_213.2.2.2 = al_L_213 := by dsimp only [cq_L_213]
  have e2 : cq_L_213.2.2.1 = mu_L_213 := by dsimp only [cq_L_213]
  have e3 : cq_L_213.1 = 1391 := by dsimp only [cq_L_213]
  rw [e1, e2, e3]
  exact rf_pcs (l := al_L_213) 1 ck_L_c_213 (List.isEmpty_iff.mp ck_L_n_213)
theorem ck_L_d_214 : ∀ alt ∈ cq_L_214.2.2.2, rf_run nm_cl nm_ct en_xs 8 xx_L kc_L cu_L po_L (some .boolean) 1 0 98 16364 (some cq_L_214.2.2.1) 5000 true cq_L_214.1 alt = true := by
  have e1 : cq_L_214.2.2.2 = al_L_214 := by dsimp only [cq_L_214]
  have e2 : cq_L_214.2.2.1 = mu_L_214 := by dsimp only [cq_L_214]
  have e3 : cq_L_214.1 = 1391 := by dsimp only [cq_L_214]
  rw [e1, e2, e3]
  exact rf_pcs (l := al_L_214) 1 ck_L_c_214 (List.isEmpty_iff.mp ck_L_n_214)
theorem ck_L_d_215 : ∀ alt ∈ cq_L_215.2.2.2, rf_run nm_cl nm_ct en_xs 8 xx_L kc_L cu_L po_L (some .boolean) 1 0 98 16364 (some cq_L_215.2.2.1) 5000 true cq_L_215.1 alt = true := by
  have e1 : cq_L_215.2.2.2 = al_L_215 := by dsimp only [cq_L_215]
  have e2 : cq_L_215.2.2.1 = mu_L_215 := by dsimp only [cq_L_215]
  have e3 : cq_L_215.1 = 1391 := by dsimp only [cq_L_215]
  rw [e1, e2, e3]
  exact rf_pcs (l := al_L_215) 1 ck_L_c_215 (List.isEmpty_iff.mp ck_L_n_215)
theorem ck_L_d_216 : ∀ alt ∈ cq_L_216.2.2.2, rf_run nm_cl nm_ct en_xs 8 xx_L kc_L cu_L po_L (some .boolean) 1 0 98 16364 (some cq_L_216.2.2.1) 5000 true cq_L_216.1 alt = true := by
  have e1 : cq_L_216.2.2.2 = al_L_216 := by dsimp only [cq_L_216]
  have e2 : cq_L_216.2.2.1 = mu_L_216 := by dsimp only [cq_L_216]
  have e3 : cq_L_216.1 = 1421 := by dsimp only [cq_L_216]
  rw [e1, e2, e3]
  exact rf_pcs (l := al_L_216) 1 ck_L_c_216 (List.isEmpty_iff.mp ck_L_n_216)
theorem ck_L_d_217 : ∀ alt ∈ cq_L_217.2.2.2, rf_run nm_cl nm_ct en_xs 8 xx_L kc_L cu_L po_L (some .boolean) 1 0 98 16364 (some cq_L_217.2.2.1) 5000 true cq_L_217.1 alt = true := by
  have e1 : cq_L_217.2.2.2 = al_L_217 := by dsimp only [cq_L_217]
  have e2 : cq_L_217.2.2.1 = mu_L_217 := by dsimp only [cq_L_217]
  have e3 : cq_L_217.1 = 1421 := by dsimp only [cq_L_217]
  rw [e1, e2, e3]
  exact rf_pcs (l := al_L_217) 1 ck_L_c_217 (List.isEmpty_iff.mp ck_L_n_217)
theorem ck_L_d_218 : ∀ alt ∈ cq_L_218.2.2.2, rf_run nm_cl nm_ct en_xs 8 xx_L kc_L cu_L po_L (some .boolean) 1 0 98 16364 (some cq_L_218.2.2.1) 5000 true cq_L_218.1 alt = true := by
  have e1 : cq_L_218.2.2.2 = al_L_218 := by dsimp only [cq_L_218]
  have e2 : cq_L_218.2.2.1 = mu_L_218 := by dsimp only [cq_L_218]
  have e3 : cq_L_218.1 = 1421 := by dsimp only [cq_L_218]
  rw [e1, e2, e3]
  exact rf_pcs (l := al_L_218) 0 ck_L_c_218 (List.isEmpty_iff.mp ck_L_n_218)
theorem ck_L_d_219 : ∀ alt ∈ cq_L_219.2.2.2, rf_run nm_cl nm_ct en_xs 8 xx_L kc_L cu_L po_L (some .boolean) 1 0 98 16364 (some cq_L_219.2.2.1) 5000 true cq_L_219.1 alt = true := by
  have e1 : cq_L_219.2.2.2 = al_L_219 := by dsimp only [cq_L_219]
  have e2 : cq_L_219.2.2.1 = mu_L_219 := by dsimp only [cq_L_219]
  have e3 : cq_L_219.1 = 1421 := by dsimp only [cq_L_219]
  rw [e1, e2, e3]
  exact rf_pcs (l := al_L_219) 0 ck_L_c_219 (List.isEmpty_iff.mp ck_L_n_219)
theorem ck_L_d_220 : ∀ alt ∈ cq_L_220.2.2.2, rf_run nm_cl nm_ct en_xs 8 xx_L kc_L cu_L po_L (some .boolean) 1 0 98 16364 (some cq_L_220.2.2.1) 5000 true cq_L_220.1 alt = true := by
  have e1 : cq_L_220.2.2.2 = al_L_220 := by dsimp only [cq_L_220]
  have e2 : cq_L_220.2.2.1 = mu_L_220 := by dsimp only [cq_L_220]
  have e3 : cq_L_220.1 = 1421 := by dsimp only [cq_L_220]
  rw [e1, e2, e3]
  exact rf_pcs (l := al_L_220) 0 ck_L_c_220 (List.isEmpty_iff.mp ck_L_n_220)
theorem ck_L_d_221 : ∀ alt ∈ cq_L_221.2.2.2, rf_run nm_cl nm_ct en_xs 8 xx_L kc_L cu_L po_L (some .boolean) 1 0 98 16364 (some cq_L_221.2.2.1) 5000 true cq_L_221.1 alt = true := by
  have e1 : cq_L_221.2.2.2 = al_L_221 := by dsimp only [cq_L_221]
  have e2 : cq_L_221.2.2.1 = mu_L_221 := by dsimp only [cq_L_221]
  have e3 : cq_L_221.1 = 1421 := by dsimp only [cq_L_221]
  rw [e1, e2, e3]
  exact rf_pcs (l := al_L_221) 0 ck_L_c_221 (List.isEmpty_iff.mp ck_L_n_221)
theorem ck_L_d_222 : ∀ alt ∈ cq_L_222.2.2.2, rf_run nm_cl nm_ct en_xs 8 xx_L kc_L cu_L po_L (some .boolean) 1 0 98 16364 (some cq_L_222.2.2.1) 5000 true cq_L_222.1 alt = true := by
  have e1 : cq_L_222.2.2.2 = al_L_222 := by dsimp only [cq_L_222]
  have e2 : cq_L_222.2.2.1 = mu_L_222 := by dsimp only [cq_L_222]
  have e3 : cq_L_222.1 = 1421 := by dsimp only [cq_L_222]
  rw [e1, e2, e3]
  exact rf_pcs (l := al_L_222) 0 ck_L_c_222 (List.isEmpty_iff.mp ck_L_n_222)
theorem ck_L_d_223 : ∀ alt ∈ cq_L_223.2.2.2, rf_run nm_cl nm_ct en_xs 8 xx_L kc_L cu_L po_L (some .boolean) 1 0 98 16364 (some cq_L_223.2.2.1) 5000 true cq_L_223.1 alt = true := by
  have e1 : cq_L_223.2.2.2 = al_L_223 := by dsimp only [cq_L_223]
  have e2 : cq_L_223.2.2.1 = mu_L_223 := by dsimp only [cq_L_223]
  have e3 : cq_L_223.1 = 1421 := by dsimp only [cq_L_223]
  rw [e1, e2, e3]
  exact rf_pcs (l := al_L_223) 0 ck_L_c_223 (List.isEmpty_iff.mp ck_L_n_223)
theorem ck_L_d_224 : ∀ alt ∈ cq_L_224.2.2.2, rf_run nm_cl nm_ct en_xs 8 xx_L kc_L cu_L po_L (some .boolean) 1 0 98 16364 (some cq_L_224.2.2.1) 5000 true cq_L_224.1 alt = true := by
  have e1 : cq_L_224.2.2.2 = al_L_224 := by dsimp only [cq_L_224]
  have e2 : cq_L_224.2.2.1 = mu_L_224 := by dsimp only [cq_L_224]
  have e3 : cq_L_224.1 = 1421 := by dsimp only [cq_L_224]
  rw [e1, e2, e3]
  exact rf_pcs (l := al_L_224) 0 ck_L_c_224 (List.isEmpty_iff.mp ck_L_n_224)
theorem ck_L_d_225 : ∀ alt ∈ cq_L_225.2.2.2, rf_run nm_cl nm_ct en_xs 8 xx_L kc_L cu_L po_L (some .boolean) 1 0 98 16364 (some cq_L_225.2.2.1) 5000 true cq_L_225.1 alt = true := by
  have e1 : cq_L_225.2.2.2 = al_L_225 := by dsimp only [cq_L_225]
  have e2 : cq_L_225.2.2.1 = mu_L_225 := by dsimp only [cq_L_225]
  have e3 : cq_L_225.1 = 1421 := by dsimp only [cq_L_225]
  rw [e1, e2, e3]
  exact rf_pcs (l := al_L_225) 0 ck_L_c_225 (List.isEmpty_iff.mp ck_L_n_225)
theorem ck_L_d_226 : ∀ alt ∈ cq_L_226.2.2.2, rf_run nm_cl nm_ct en_xs 8 xx_L kc_L cu_L po_L (some .boolean) 1 0 98 16364 (some cq_L_226.2.2.1) 5000 true cq_L_226.1 alt = true := by
  have e1 : cq_L_226.2.2.2 = al_L_226 := by dsimp only [cq_L_226]
  have e2 : cq_L_226.2.2.1 = mu_L_226 := by dsimp only [cq_L_226]
  have e3 : cq_L_226.1 = 1421 := by dsimp only [cq_L_226]
  rw [e1, e2, e3]
  exact rf_pcs (l := al_L_226) 0 ck_L_c_226 (List.isEmpty_iff.mp ck_L_n_226)
theorem ck_L_d_227 : ∀ alt ∈ cq_L_227.2.2.2, rf_run nm_cl nm_ct en_xs 8 xx_L kc_L cu_L po_L (some .boolean) 1 0 98 16364 (some cq_L_227.2.2.1) 5000 true cq_L_227.1 alt = true := by
  have e1 : cq_L_227.2.2.2 = al_L_227 := by dsimp only [cq_L_227]
  have e2 : cq_L_227.2.2.1 = mu_L_227 := by dsimp only [cq_L_227]
  have e3 : cq_L_227.1 = 1421 := by dsimp only [cq_L_227]
  rw [e1, e2, e3]
  exact rf_pcs (l := al_L_227) 0 ck_L_c_227 (List.isEmpty_iff.mp ck_L_n_227)
theorem ck_L_d_228 : ∀ alt ∈ cq_L_228.2.2.2, rf_run nm_cl nm_ct en_xs 8 xx_L kc_L cu_L po_L (some .boolean) 1 0 98 16364 (some cq_L_228.2.2.1) 5000 true cq_L_228.1 alt = true := by
  have e1 : cq_L_228.2.2.2 = al_L_228 := by dsimp only [cq_L_228]
  have e2 : cq_L_228.2.2.1 = mu_L_228 := by dsimp only [cq_L_228]
  have e3 : cq_L_228.1 = 1421 := by dsimp only [cq_L_228]
  rw [e1, e2, e3]
  exact rf_pcs (l := al_L_228) 0 ck_L_c_228 (List.isEmpty_iff.mp ck_L_n_228)
theorem ck_L_d_229 : ∀ alt ∈ cq_L_229.2.2.2, rf_run nm_cl nm_ct en_xs 8 xx_L kc_L cu_L po_L (some .boolean) 1 0 98 16364 (some cq_L_229.2.2.1) 5000 true cq_L_229.1 alt = true := by
  have e1 : cq_L_229.2.2.2 = al_L_229 := by dsimp only [cq_L_229]
  have e2 : cq_L_229.2.2.1 = mu_L_229 := by dsimp only [cq_L_229]
  have e3 : cq_L_229.1 = 1421 := by dsimp only [cq_L_229]
  rw [e1, e2, e3]
  exact rf_pcs (l := al_L_229) 0 ck_L_c_229 (List.isEmpty_iff.mp ck_L_n_229)
theorem ck_L_d_230 : ∀ alt ∈ cq_L_230.2.2.2, rf_run nm_cl nm_ct en_xs 8 xx_L kc_L cu_L po_L (some .boolean) 1 0 98 16364 (some cq_L_230.2.2.1) 5000 true cq_L_230.1 alt = true := by
  have e1 : cq_L_230.2.2.2 = al_L_230 := by dsimp only [cq_L_230]
  have e2 : cq_L_230.2.2.1 = mu_L_230 := by dsimp only [cq_L_230]
  have e3 : cq_L_230.1 = 1421 := by dsimp only [cq_L_230]
  rw [e1, e2, e3]
  exact rf_pcs (l := al_L_230) 0 ck_L_c_230 (List.isEmpty_iff.mp ck_L_n_230)
theorem ck_L_d_231 : ∀ alt ∈ cq_L_231.2.2.2, rf_run nm_cl nm_ct en_xs 8 xx_L kc_L cu_L po_L (some .boolean) 1 0 98 16364 (some cq_L_231.2.2.1) 5000 true cq_L_231.1 alt = true := by
  have e1 : cq_L_231.2.2.2 = al_L_231 := by dsimp only [cq_L_231]
  have e2 : cq_L_231.2.2.1 = mu_L_231 := by dsimp only [cq_L_231]
  have e3 : cq_L_231.1 = 1421 := by dsimp only [cq_L_231]
  rw [e1, e2, e3]
  exact rf_pcs (l := al_L_231) 0 ck_L_c_231 (List.isEmpty_iff.mp ck_L_n_231)
theorem ck_L_d_232 : ∀ alt ∈ cq_L_232.2.2.2, rf_run nm_cl nm_ct en_xs 8 xx_L kc_L cu_L po_L (some .boolean) 1 0 98 16364 (some cq_L_232.2.2.1) 5000 true cq_L_232.1 alt = true := by
  have e1 : cq_L_232.2.2.2 = al_L_232 := by dsimp only [cq_L_232]
  have e2 : cq_L_232.2.2.1 = mu_L_232 := by dsimp only [cq_L_232]
  have e3 : cq_L_232.1 = 1421 := by dsimp only [cq_L_232]
  rw [e1, e2, e3]
  exact rf_pcs (l := al_L_232) 0 ck_L_c_232 (List.isEmpty_iff.mp ck_L_n_232)
theorem ck_L_d_233 : ∀ alt ∈ cq_L_233.2.2.2, rf_run nm_cl nm_ct en_xs 8 xx_L kc_L cu_L po_L (some .boolean) 1 0 98 16364 (some cq_L_233.2.2.1) 5000 true cq_L_233.1 alt = true := by
  have e1 : cq_L_233.2.2.2 = al_L_233 := by dsimp only [cq_L_233]
  have e2 : cq_L_233.2.2.1 = mu_L_233 := by dsimp only [cq_L_233]
  have e3 : cq_L_233.1 = 1421 := by dsimp only [cq_L_233]
  rw [e1, e2, e3]
  exact rf_pcs (l := al_L_233) 0 ck_L_c_233 (List.isEmpty_iff.mp ck_L_n_233)
theorem ck_L_d_234 : ∀ alt ∈ cq_L_234.2.2.2, rf_run nm_cl nm_ct en_xs 8 xx_L kc_L cu_L po_L (some .boolean) 1 0 98 16364 (some cq_L_234.2.2.1) 5000 true cq_L_234.1 alt = true := by
  have e1 : cq_L_234.2.2.2 = al_L_234 := by dsimp only [cq_L_234]
  have e2 : cq_L_234.2.2.1 = mu_L_234 := by dsimp only [cq_L_234]
  have e3 : cq_L_234.1 = 1421 := by dsimp only [cq_L_234]
  rw [e1, e2, e3]
  exact rf_pcs (l := al_L_234) 0 ck_L_c_234 (List.isEmpty_iff.mp ck_L_n_234)
theorem ck_L_d_235 : ∀ alt ∈ cq_L_235.2.2.2, rf_run nm_cl nm_ct en_xs 8 xx_L kc_L cu_L po_L (some .boolean) 1 0 98 16364 (some cq_L_235.2.2.1) 5000 true cq_L_235.1 alt = true := by
  have e1 : cq_L_235.2.2.2 = al_L_235 := by dsimp only [cq_L_235]
  have e2 : cq_L_235.2.2.1 = mu_L_235 := by dsimp only [cq_L_235]
  have e3 : cq_L_235.1 = 1421 := by dsimp only [cq_L_235]
  rw [e1, e2, e3]
  exact rf_pcs (l := al_L_235) 1 ck_L_c_235 (List.isEmpty_iff.mp ck_L_n_235)
theorem ck_L_d_236 : ∀ alt ∈ cq_L_236.2.2.2, rf_run nm_cl nm_ct en_xs 8 xx_L kc_L cu_L po_L (some .boolean) 1 0 98 16364 (some cq_L_236.2.2.1) 5000 true cq_L_236.1 alt = true := by
  have e1 : cq_L_236.2.2.2 = al_L_236 := by dsimp only [cq_L_236]
  have e2 : cq_L_236.2.2.1 = mu_L_236 := by dsimp only [cq_L_236]
  have e3 : cq_L_236.1 = 1421 := by dsimp only [cq_L_236]
  rw [e1, e2, e3]
  exact rf_pcs (l := al_L_236) 0 ck_L_c_236 (List.isEmpty_iff.mp ck_L_n_236)
theorem ck_L_d_237 : ∀ alt ∈ cq_L_237.2.2.2, rf_run nm_cl nm_ct en_xs 8 xx_L kc_L cu_L po_L (some .boolean) 1 0 98 16364 (some cq_L_237.2.2.1) 5000 true cq_L_237.1 alt = true := by
  have e1 : cq_L_237.2.2.2 = al_L_237 := by dsimp only [cq_L_237]
  have e2 : cq_L_237.2.2.1 = mu_L_237 := by dsimp only [cq_L_237]
  have e3 : cq_L_237.1 = 1421 := by dsimp only [cq_L_237]
  rw [e1, e2, e3]
  exact rf_pcs (l := al_L_237) 0 ck_L_c_237 (List.isEmpty_iff.mp ck_L_n_237)
theorem ck_L_d_238 : ∀ alt ∈ cq_L_238.2.2.2, rf_run nm_cl nm_ct en_xs 8 xx_L kc_L cu_L po_L (some .boolean) 1 0 98 16364 (some cq_L_238.2.2.1) 5000 true cq_L_238.1 alt = true := by
  have e1 : cq_L_238.2.2.2 = al_L_238 := by dsimp only [cq_L_238]
  have e2 : cq_L_238.2.2.1 = mu_L_238 := by dsimp only [cq_L_238]
  have e3 : cq_L_238.1 = 1421 := by dsimp only [cq_L_238]
  rw [e1, e2, e3]
  exact rf_pcs (l := al_L_238) 0 ck_L_c_238 (List.isEmpty_iff.mp ck_L_n_238)
theorem ck_L_d_239 : ∀ alt ∈ cq_L_239.2.2.2, rf_run nm_cl nm_ct en_xs 8 xx_L kc_L cu_L po_L (some .boolean) 1 0 98 16364 (some cq_L_239.2.2.1) 5000 true cq_L_239.1 alt = true := by
  have e1 : cq_L_239.2.2.2 = al_L_239 := by dsimp only [cq_L_239]
  have e2 : cq_L_239.2.2.1 = mu_L_239 := by dsimp only [cq_L_239]
  have e3 : cq_L_239.1 = 1421 := by dsimp only [cq_L_239]
  rw [e1, e2, e3]
  exact rf_pcs (l := al_L_239) 0 ck_L_c_239 (List.isEmpty_iff.mp ck_L_n_239)
theorem ck_L_d_240 : ∀ alt ∈ cq_L_240.2.2.2, rf_run nm_cl nm_ct en_xs 8 xx_L kc_L cu_L po_L (some .boolean) 1 0 98 16364 (some cq_L_240.2.2.1) 5000 true cq_L_240.1 alt = true := by
  have e1 : cq_L_240.2.2.2 = al_L_240 := by dsimp only [cq_L_240]
  have e2 : cq_L_240.2.2.1 = mu_L_240 := by dsimp only [cq_L_240]
  have e3 : cq_L_240.1 = 1421 := by dsimp only [cq_L_240]
  rw [e1, e2, e3]
  exact rf_pcs (l := al_L_240) 0 ck_L_c_240 (List.isEmpty_iff.mp ck_L_n_240)
theorem ck_L_d_241 : ∀ alt ∈ cq_L_241.2.2.2, rf_run nm_cl nm_ct en_xs 8 xx_L kc_L cu_L po_L (some .boolean) 1 0 98 16364 (some cq_L_241.2.2.1) 5000 true cq_L_241.1 alt = true := by
  have e1 : cq_L_241.2.2.2 = al_L_241 := by dsimp only [cq_L_241]
  have e2 : cq_L_241.2.2.1 = mu_L_241 := by dsimp only [cq_L_241]
  have e3 : cq_L_241.1 = 1421 := by dsimp only [cq_L_241]
  rw [e1, e2, e3]
  exact rf_pcs (l := al_L_241) 0 ck_L_c_241 (List.isEmpty_iff.mp ck_L_n_241)
theorem ck_L_d_242 : ∀ alt ∈ cq_L_242.2.2.2, rf_run nm_cl nm_ct en_xs 8 xx_L kc_L cu_L po_L (some .boolean) 1 0 98 16364 (some cq_L_242.2.2.1) 5000 true cq_L_242.1 alt = true := by
  have e1 : cq_L_242.2.2.2 = al_L_242 := by dsimp only [cq_L_242]
  have e2 : cq_L_242.2.2.1 = mu_L_242 := by dsimp only [cq_L_242]
  have e3 : cq_L_242.1 = 1421 := by dsimp only [cq_L_242]
  rw [e1, e2, e3]
  exact rf_pcs (l := al_L_242) 0 ck_L_c_242 (List.isEmpty_iff.mp ck_L_n_242)
theorem ck_L_d_243 : ∀ alt ∈ cq_L_243.2.2.2, rf_run nm_cl nm_ct en_xs 8 xx_L kc_L cu_L po_L (some .boolean) 1 0 98 16364 (some cq_L_243.2.2.1) 5000 true cq_L_243.1 alt = true := by
  have e1 : cq_L_243.2.2.2 = al_L_243 := by dsimp only [cq_L_243]
  have e2 : cq_L_243.2.2.1 = mu_L_243 := by dsimp only [cq_L_243]
  have e3 : cq_L_243.1 = 1421 := by dsimp only [cq_L_243]
  rw [e1, e2, e3]
  exact rf_pcs (l := al_L_243) 0 ck_L_c_243 (List.isEmpty_iff.mp ck_L_n_243)
theorem ck_L_d_244 : ∀ alt ∈ cq_L_244.2.2.2, rf_run nm_cl nm_ct en_xs 8 xx_L kc_L cu_L po_L (some .boolean) 1 0 98 16364 (some cq_L_244.2.2.1) 5000 true cq_L_244.1 alt = true := by
  have e1 : cq_L_244.2.2.2 = al_L_244 := by dsimp only [cq_L_244]
  have e2 : cq_L_244.2.2.1 = mu_L_244 := by dsimp only [cq_L_244]
  have e3 : cq_L_244.1 = 1421 := by dsimp only [cq_L_244]
  rw [e1, e2, e3]
  exact rf_pcs (l := al_L_244) 0 ck_L_c_244 (List.isEmpty_iff.mp ck_L_n_244)
theorem ck_L_d_245 : ∀ alt ∈ cq_L_245.2.2.2, rf_run nm_cl nm_ct en_xs 8 xx_L kc_L cu_L po_L (some .boolean) 1 0 98 16364 (some cq_L_245.2.2.1) 5000 true cq_L_245.1 alt = true := by
  have e1 : cq_L_245.2.2.2 = al_L_245 := by dsimp only [cq_L_245]
  have e2 : cq_L_245.2.2.1 = mu_L_245 := by dsimp only [cq_L_245]
  have e3 : cq_L_245.1 = 1421 := by dsimp only [cq_L_245]
  rw [e1, e2, e3]
  exact rf_pcs (l := al_L_245) 1 ck_L_c_245 (List.isEmpty_iff.mp ck_L_n_245)
theorem ck_L_d_246 : ∀ alt ∈ cq_L_246.2.2.2, rf_run nm_cl nm_ct en_xs 8 xx_L kc_L cu_L po_L (some .boolean) 1 0 98 16364 (some cq_L_246.2.2.1) 5000 true cq_L_246.1 alt = true := by
  have e1 : cq_L_246.2.2.2 = al_L_246 := by dsimp only [cq_L_246]
  have e2 : cq_L_246.2.2.1 = mu_L_246 := by dsimp only [cq_L_246]
  have e3 : cq_L_246.1 = 1421 := by dsimp only [cq_L_246]
  rw [e1, e2, e3]
  exact rf_pcs (l := al_L_246) 1 ck_L_c_246 (List.isEmpty_iff.mp ck_L_n_246)
theorem ck_L_d_247 : ∀ alt ∈ cq_L_247.2.2.2, rf_run nm_cl nm_ct en_xs 8 xx_L kc_L cu_L po_L (some .boolean) 1 0 98 16364 (some cq_L_247.2.2.1) 5000 true cq_L_247.1 alt = true := by
  have e1 : cq_L_247.2.2.2 = al_L_247 := by dsimp only [cq_L_247]
  have e2 : cq_L_247.2.2.1 = mu_L_247 := by dsimp only [cq_L_247]
  have e3 : cq_L_247.1 = 1421 := by dsimp only [cq_L_247]
  rw [e1, e2, e3]
  exact rf_pcs (l := al_L_247) 1 ck_L_c_247 (List.isEmpty_iff.mp ck_L_n_247)
theorem ck_L_d_248 : ∀ alt ∈ cq_L_248.2.2.2, rf_run nm_cl nm_ct en_xs 8 xx_L kc_L cu_L po_L (some .boolean) 1 0 98 16364 (some cq_L_248.2.2.1) 5000 true cq_L_248.1 alt = true := by
  have e1 : cq_L_248.2.2.2 = al_L_248 := by dsimp only [cq_L_248]
  have e2 : cq_L_248.2.2.1 = mu_L_248 := by dsimp only [cq_L_248]
  have e3 : cq_L_248.1 = 1421 := by dsimp only [cq_L_248]
  rw [e1, e2, e3]
  exact rf_pcs (l := al_L_248) 0 ck_L_c_248 (List.isEmpty_iff.mp ck_L_n_248)
theorem ck_L_d_249 : ∀ alt ∈ cq_L_249.2.2.2, rf_run nm_cl nm_ct en_xs 8 xx_L kc_L cu_L po_L (some .boolean) 1 0 98 16364 (some cq_L_249.2.2.1) 5000 true cq_L_249.1 alt = true := by
  have e1 : cq_L_249.2.2.2 = al_L_249 := by dsimp only [cq_L_249]
  have e2 : cq_L_249.2.2.1 = mu_L_249 := by dsimp only [cq_L_249]
  have e3 : cq_L_249.1 = 1421 := by dsimp only [cq_L_249]
  rw [e1, e2, e3]
  exact rf_pcs (l := al_L_249) 0 ck_L_c_249 (List.isEmpty_iff.mp ck_L_n_249)
theorem ck_L_d_250 : ∀ alt ∈ cq_L_250.2.2.2, rf_run nm_cl nm_ct en_xs 8 xx_L kc_L cu_L po_L (some .boolean) 1 0 98 16364 (some cq_L_250.2.2.1) 5000 true cq_L_250.1 alt = true := by
  have e1 : cq_L_250.2.2.2 = al_L_250 := by dsimp only [cq_L_250]
  have e2 : cq_L_250.2.2.1 = mu_L_250 := by dsimp only [cq_L_250]
  have e3 : cq_L_250.1 = 1421 := by dsimp only [cq_L_250]
  rw [e1, e2, e3]
  exact rf_pcs (l := al_L_250) 0 ck_L_c_250 (List.isEmpty_iff.mp ck_L_n_250)
theorem ck_L_d_251 : ∀ alt ∈ cq_L_251.2.2.2, rf_run nm_cl nm_ct en_xs 8 xx_L kc_L cu_L po_L (some .boolean) 1 0 98 16364 (some cq_L_251.2.2.1) 5000 true cq_L_251.1 alt = true := by
  have e1 : cq_L_251.2.2.2 = al_L_251 := by dsimp only [cq_L_251]
  have e2 : cq_L_251.2.2.1 = mu_L_251 := by dsimp only [cq_L_251]
  have e3 : cq_L_251.1 = 1421 := by dsimp only [cq_L_251]
  rw [e1, e2, e3]
  exact rf_pcs (l := al_L_251) 0 ck_L_c_251 (List.isEmpty_iff.mp ck_L_n_251)
theorem ck_L_d_252 : ∀ alt ∈ cq_L_252.2.2.2, rf_run nm_cl nm_ct en_xs 8 xx_L kc_L cu_L po_L (some .boolean) 1 0 98 16364 (some cq_L_252.2.2.1) 5000 true cq_L_252.1 alt = true := by
  have e1 : cq_L_252.2.2.2 = al_L_252 := by dsimp only [cq_L_252]
  have e2 : cq_L_252.2.2.1 = mu_L_252 := by dsimp only [cq_L_252]
  have e3 : cq_L_252.1 = 1421 := by dsimp only [cq_L_252]
  rw [e1, e2, e3]
  exact rf_pcs (l := al_L_252) 0 ck_L_c_252 (List.isEmpty_iff.mp ck_L_n_252)
theorem ck_L_d_253 : ∀ alt ∈ cq_L_253.2.2.2, rf_run nm_cl nm_ct en_xs 8 xx_L kc_L cu_L po_L (some .boolean) 1 0 98 16364 (some cq_L_253.2.2.1) 5000 true cq_L_253.1 alt = true := by
  have e1 : cq_L_253.2.2.2 = al_L_253 := by dsimp only [cq_L_253]
  have e2 : cq_L_253.2.2.1 = mu_L_253 := by dsimp only [cq_L_253]
  have e3 : cq_L_253.1 = 1421 := by dsimp only [cq_L_253]
  rw [e1, e2, e3]
  exact rf_pcs (l := al_L_253) 0 ck_L_c_253 (List.isEmpty_iff.mp ck_L_n_253)
theorem ck_L_d_254 : ∀ alt ∈ cq_L_254.2.2.2, rf_run nm_cl nm_ct en_xs 8 xx_L kc_L cu_L po_L (some .boolean) 1 0 98 16364 (some cq_L_254.2.2.1) 5000 true cq_L_254.1 alt = true := by
  have e1 : cq_L_254.2.2.2 = al_L_254 := by dsimp only [cq_L_254]
  have e2 : cq_L_254.2.2.1 = mu_L_254 := by dsimp only [cq_L_254]
  have e3 : cq_L_254.1 = 1421 := by dsimp only [cq_L_254]
  rw [e1, e2, e3]
  exact rf_pcs (l := al_L_254) 0 ck_L_c_254 (List.isEmpty_iff.mp ck_L_n_254)
theorem ck_L_d_255 : ∀ alt ∈ cq_L_255.2.2.2, rf_run nm_cl nm_ct en_xs 8 xx_L kc_L cu_L po_L (some .boolean) 1 0 98 16364 (some cq_L_255.2.2.1) 5000 true cq_L_255.1 alt = true := by
  have e1 : cq_L_255.2.2.2 = al_L_255 := by dsimp only [cq_L_255]
  have e2 : cq_L_255.2.2.1 = mu_L_255 := by dsimp only [cq_L_255]
  have e3 : cq_L_255.1 = 1421 := by dsimp only [cq_L_255]
  rw [e1, e2, e3]
  exact rf_pcs (l := al_L_255) 0 ck_L_c_255 (List.isEmpty_iff.mp ck_L_n_255)
theorem ck_L_d_256 : ∀ alt ∈ cq_L_256.2.2.2, rf_run nm_cl nm_ct en_xs 8 xx_L kc_L cu_L po_L (some .boolean) 1 0 98 16364 (some cq_L_256.2.2.1) 5000 true cq_L_256.1 alt = true := by
  have e1 : cq_L_256.2.2.2 = al_L_256 := by dsimp only [cq_L_256]
  have e2 : cq_L_256.2.2.1 = mu_L_256 := by dsimp only [cq_L_256]
  have e3 : cq_L_256.1 = 1421 := by dsimp only [cq_L_256]
  rw [e1, e2, e3]
  exact rf_pcs (l := al_L_256) 1 ck_L_c_256 (List.isEmpty_iff.mp ck_L_n_256)
theorem ck_L_d_257 : ∀ alt ∈ cq_L_257.2.2.2, rf_run nm_cl nm_ct en_xs 8 xx_L kc_L cu_L po_L (some .boolean) 1 0 98 16364 (some cq_L_257.2.2.1) 5000 true cq_L_257.1 alt = true := by
  have e1 : cq_L_257.2.2.2 = al_L_257 := by dsimp only [cq_L_257]
  have e2 : cq_L_257.2.2.1 = mu_L_257 := by dsimp only [cq_L_257]
  have e3 : cq_L_257.1 = 1421 := by dsimp only [cq_L_257]
  rw [e1, e2, e3]
  exact rf_pcs (l := al_L_257) 0 ck_L_c_257 (List.isEmpty_iff.mp ck_L_n_257)
theorem ck_L_d_258 : ∀ alt ∈ cq_L_258.2.2.2, rf_run nm_cl nm_ct en_xs 8 xx_L kc_L cu_L po_L (some .boolean) 1 0 98 16364 (some cq_L_258.2.2.1) 5000 true cq_L_258.1 alt = true := by
  have e1 : cq_L_258.2.2.2 = al_L_258 := by dsimp only [cq_L_258]
  have e2 : cq_L_258.2.2.1 = mu_L_258 := by dsimp only [cq_L_258]
  have e3 : cq_L_258.1 = 1421 := by dsimp only [cq_L_258]
  rw [e1, e2, e3]
  exact rf_pcs (l := al_L_258) 1 ck_L_c_258 (List.isEmpty_iff.mp ck_L_n_258)
theorem ck_L_d_259 : ∀ alt ∈ cq_L_259.2.2.2, rf_run nm_cl nm_ct en_xs 8 xx_L kc_L cu_L po_L (some .boolean) 1 0 98 16364 (some cq_L_259.2.2.1) 5000 true cq_L_259.1 alt = true := by
  have e1 : cq_L_259.2.2.2 = al_L_259 := by dsimp only [cq_L_259]
  have e2 : cq_L_259.2.2.1 = mu_L_259 := by dsimp only [cq_L_259]
  have e3 : cq_L_259.1 = 1421 := by dsimp only [cq_L_259]
  rw [e1, e2, e3]
  exact rf_pcs (l := al_L_259) 0 ck_L_c_259 (List.isEmpty_iff.mp ck_L_n_259)
theorem ck_L_d_260 : ∀ alt ∈ cq_L_260.2.2.2, rf_run nm_cl nm_ct en_xs 8 xx_L kc_L cu_L po_L (some .boolean) 1 0 98 16364 (some cq_L_260.2.2.1) 5000 true cq_L_260.1 alt = true := by
  have e1 : cq_L_260.2.2.2 = al_L_260 := by dsimp only [cq_L_260]
  have e2 : cq_L_260.2.2.1 = mu_L_260 := by dsimp only [cq_L_260]
  have e3 : cq_L_260.1 = 1421 := by dsimp only [cq_L_260]
  rw [e1, e2, e3]
  exact rf_pcs (l := al_L_260) 1 ck_L_c_260 (List.isEmpty_iff.mp ck_L_n_260)
theorem ck_L_d_261 : ∀ alt ∈ cq_L_261.2.2.2, rf_run nm_cl nm_ct en_xs 8 xx_L kc_L cu_L po_L (some .boolean) 1 0 98 16364 (some cq_L_261.2.2.1) 5000 true cq_L_261.1 alt = true := by
  have e1 : cq_L_261.2.2.2 = al_L_261 := by dsimp only [cq_L_261]
  have e2 : cq_L_261.2.2.1 = mu_L_261 := by dsimp only [cq_L_261]
  have e3 : cq_L_261.1 = 1421 := by dsimp only [cq_L_261]
  rw [e1, e2, e3]
  exact rf_pcs (l := al_L_261) 0 ck_L_c_261 (List.isEmpty_iff.mp ck_L_n_261)
theorem ck_L_d_262 : ∀ alt ∈ cq_L_262.2.2.2, rf_run nm_cl nm_ct en_xs 8 xx_L kc_L cu_L po_L (some .boolean) 1 0 98 16364 (some cq_L_262.2.2.1) 5000 true cq_L_262.1 alt = true := by
  have e1 : cq_L_262.2.2.2 = al_L_262 := by dsimp only [cq_L_262]
  have e2 : cq_L_262.2.2.1 = mu_L_262 := by dsimp only [cq_L_262]
  have e3 : cq_L_262.1 = 1421 := by dsimp only [cq_L_262]
  rw [e1, e2, e3]
  exact rf_pcs (l := al_L_262) 0 ck_L_c_262 (List.isEmpty_iff.mp ck_L_n_262)
theorem ck_L_d_263 : ∀ alt ∈ cq_L_263.2.2.2, rf_run nm_cl nm_ct en_xs 8 xx_L kc_L cu_L po_L (some .boolean) 1 0 98 16364 (some cq_L_263.2.2.1) 5000 true cq_L_263.1 alt = true := by
  have e1 : cq_L_263.2.2.2 = al_L_263 := by dsimp only [cq_L_263]
  have e2 : cq_L_263.2.2.1 = mu_L_263 := by dsimp only [cq_L_263]
  have e3 : cq_L_263.1 = 1421 := by dsimp only [cq_L_263]
  rw [e1, e2, e3]
  exact rf_pcs (l := al_L_263) 0 ck_L_c_263 (List.isEmpty_iff.mp ck_L_n_263)
theorem ck_L_d_264 : ∀ alt ∈ cq_L_264.2.2.2, rf_run nm_cl nm_ct en_xs 8 xx_L kc_L cu_L po_L (some .boolean) 1 0 98 16364 (some cq_L_264.2.2.1) 5000 true cq_L_264.1 alt = true := by
  have e1 : cq_L_264.2.2.2 = al_L_264 := by dsimp only [cq_L_264]
  have e2 : cq_L_264.2.2.1 = mu_L_264 := by dsimp only [cq_L_264]
  have e3 : cq_L_264.1 = 1421 := by dsimp only [cq_L_264]
  rw [e1, e2, e3]
  exact rf_pcs (l := al_L_264) 0 ck_L_c_264 (List.isEmpty_iff.mp ck_L_n_264)
theorem ck_L_d_265 : ∀ alt ∈ cq_L_265.2.2.2, rf_run nm_cl nm_ct en_xs 8 xx_L kc_L cu_L po_L (some .boolean) 1 0 98 16364 (some cq_L_265.2.2.1) 5000 true cq_L_265.1 alt = true := by
  have e1 : cq_L_265.2.2.2 = al_L_265 := by dsimp only [cq_L_265]
  have e2 : cq_L_265.2.2.1 = mu_L_265 := by dsimp only [cq_L_265]
  have e3 : cq_L_265.1 = 1421 := by dsimp only [cq_L_265]
  rw [e1, e2, e3]
  exact rf_pcs (l := al_L_265) 0 ck_L_c_265 (List.isEmpty_iff.mp ck_L_n_265)
theorem ck_L_d_266 : ∀ alt ∈ cq_L_266.2.2.2, rf_run nm_cl nm_ct en_xs 8 xx_L kc_L cu_L po_L (some .boolean) 1 0 98 16364 (some cq_L_266.2.2.1) 5000 true cq_L_266.1 alt = true := by
  have e1 : cq_L_266.2.2.2 = al_L_266 := by dsimp only [cq_L_266]
  have e2 : cq_L_266.2.2.1 = mu_L_266 := by dsimp only [cq_L_266]
  have e3 : cq_L_266.1 = 1421 := by dsimp only [cq_L_266]
  rw [e1, e2, e3]
  exact rf_pcs (l := al_L_266) 0 ck_L_c_266 (List.isEmpty_iff.mp ck_L_n_266)
theorem ck_L_d_267 : ∀ alt ∈ cq_L_267.2.2.2, rf_run nm_cl nm_ct en_xs 8 xx_L kc_L cu_L po_L (some .boolean) 1 0 98 16364 (some cq_L_267.2.2.1) 5000 true cq_L_267.1 alt = true := by
  have e1 : cq_L_267.2.2.2 = al_L_267 := by dsimp only [cq_L_267]
  have e2 : cq_L_267.2.2.1 = mu_L_267 := by dsimp only [cq_L_267]
  have e3 : cq_L_267.1 = 1421 := by dsimp only [cq_L_267]
  rw [e1, e2, e3]
  exact rf_pcs (l := al_L_267) 0 ck_L_c_267 (List.isEmpty_iff.mp ck_L_n_267)
theorem ck_L_d_268 : ∀ alt ∈ cq_L_268.2.2.2, rf_run nm_cl nm_ct en_xs 8 xx_L kc_L cu_L po_L (some .boolean) 1 0 98 16364 (some cq_L_268.2.2.1) 5000 true cq_L_268.1 alt = true := by
  have e1 : cq_L_268.2.2.2 = al_L_268 := by dsimp only [cq_L_268]
  have e2 : cq_L_268.2.2.1 = mu_L_268 := by dsimp only [cq_L_268]
  have e3 : cq_L_268.1 = 1421 := by dsimp only [cq_L_268]
  rw [e1, e2, e3]
  exact rf_pcs (l := al_L_268) 1 ck_L_c_268 (List.isEmpty_iff.mp ck_L_n_268)
theorem ck_L_d_269 : ∀ alt ∈ cq_L_269.2.2.2, rf_run nm_cl nm_ct en_xs 8 xx_L kc_L cu_L po_L (some .boolean) 1 0 98 16364 (some cq_L_269.2.2.1) 5000 true cq_L_269.1 alt = true := by
  have e1 : cq_L_269.2.2.2 = al_L_269 := by dsimp only [cq_L_269]
  have e2 : cq_L_269.2.2.1 = mu_L_269 := by dsimp only [cq_L_269]
  have e3 : cq_L_269.1 = 1421 := by dsimp only [cq_L_269]
  rw [e1, e2, e3]
  exact rf_pcs (l := al_L_269) 0 ck_L_c_269 (List.isEmpty_iff.mp ck_L_n_269)
theorem ck_L_d_270 : ∀ alt ∈ cq_L_270.2.2.2, rf_run nm_cl nm_ct en_xs 8 xx_L kc_L cu_L po_L (some .boolean) 1 0 98 16364 (some cq_L_270.2.2.1) 5000 true cq_L_270.1 alt = true := by
  have e1 : cq_L_270.2.2.2 = al_L_270 := by dsimp only [cq_L_270]
  have e2 : cq_L_270.2.2.1 = mu_L_270 := by dsimp only [cq_L_270]
  have e3 : cq_L_270.1 = 1421 := by dsimp only [cq_L_270]
  rw [e1, e2, e3]
  exact rf_pcs (l := al_L_270) 1 ck_L_c_270 (List.isEmpty_iff.mp ck_L_n_270)
theorem ck_L_d_271 : ∀ alt ∈ cq_L_271.2.2.2, rf_run nm_cl nm_ct en_xs 8 xx_L kc_L cu_L po_L (some .boolean) 1 0 98 16364 (some cq_L_271.2.2.1) 5000 true cq_L_271.1 alt = true := by
  have e1 : cq_L_271.2.2.2 = al_L_271 := by dsimp only [cq_L_271]
  have e2 : cq_L_271.2.2.1 = mu_L_271 := by dsimp only [cq_L_271]
  have e3 : cq_L_271.1 = 1421 := by dsimp only [cq_L_271]
  rw [e1, e2, e3]
  exact rf_pcs (l := al_L_271) 0 ck_L_c_271 (List.isEmpty_iff.mp ck_L_n_271)
theorem ck_L_d_272 : ∀ alt ∈ cq_L_272.2.2.2, rf_run nm_cl nm_ct en_xs 8 xx_L kc_L cu_L po_L (some .boolean) 1 0 98 16364 (some cq_L_272.2.2.1) 5000 true cq_L_272.1 alt = true := by
  have e1 : cq_L_272.2.2.2 = al_L_272 := by dsimp only [cq_L_272]
  have e2 : cq_L_272.2.2.1 = mu_L_272 := by dsimp only [cq_L_272]
  have e3 : cq_L_272.1 = 1421 := by dsimp only [cq_L_272]
  rw [e1, e2, e3]
  exact rf_pcs (l := al_L_272) 0 ck_L_c_272 (List.isEmpty_iff.mp ck_L_n_272)
theorem ck_L_d_273 : ∀ alt ∈ cq_L_273.2.2.2, rf_run nm_cl nm_ct en_xs 8 xx_L kc_L cu_L po_L (some .boolean) 1 0 98 16364 (some cq_L_273.2.2.1) 5000 true cq_L_273.1 alt = true := by
  have e1 : cq_L_273.2.2.2 = al_L_273 := by dsimp only [cq_L_273]
  have e2 : cq_L_273.2.2.1 = mu_L_273 := by dsimp only [cq_L_273]
  have e3 : cq_L_273.1 = 1421 := by dsimp only [cq_L_273]
  rw [e1, e2, e3]
  exact rf_pcs (l := al_L_273) 0 ck_L_c_273 (List.isEmpty_iff.mp ck_L_n_273)
theorem ck_L_d_274 : ∀ alt ∈ cq_L_274.2.2.2, rf_run nm_cl nm_ct en_xs 8 xx_L kc_L cu_L po_L (some .boolean) 1 0 98 16364 (some cq_L_274.2.2.1) 5000 true cq_L_274.1 alt = true := by
  have e1 : cq_L_274.2.2.2 = al_L_274 := by dsimp only [cq_L_274]
  have e2 : cq_L_274.2.2.1 = mu_L_274 := by dsimp only [cq_L_274]
  have e3 : cq_L_274.1 = 1421 := by dsimp only [cq_L_274]
  rw [e1, e2, e3]
  exact rf_pcs (l := al_L_274) 0 ck_L_c_274 (List.isEmpty_iff.mp ck_L_n_274)
theorem ck_L_d_275 : ∀ alt ∈ cq_L_275.2.2.2, rf_run nm_cl nm_ct en_xs 8 xx_L kc_L cu_L po_L (some .boolean) 1 0 98 16364 (some cq_L_275.2.2.1) 5000 true cq_L_275.1 alt = true := by
  have e1 : cq_L_275.2.2.2 = al_L_275 := by dsimp only [cq_L_275]
  have e2 : cq_L_275.2.2.1 = mu_L_275 := by dsimp only [cq_L_275]
  have e3 : cq_L_275.1 = 1421 := by dsimp only [cq_L_275]
  rw [e1, e2, e3]
  exact rf_pcs (l := al_L_275) 0 ck_L_c_275 (List.isEmpty_iff.mp ck_L_n_275)
theorem ck_L_d_276 : ∀ alt ∈ cq_L_276.2.2.2, rf_run nm_cl nm_ct en_xs 8 xx_L kc_L cu_L po_L (some .boolean) 1 0 98 16364 (some cq_L_276.2.2.1) 5000 true cq_L_276.1 alt = true := by
  have e1 : cq_L_276.2.2.2 = al_L_276 := by dsimp only [cq_L_276]
  have e2 : cq_L_276.2.2.1 = mu_L_276 := by dsimp only [cq_L_276]
  have e3 : cq_L_276.1 = 1421 := by dsimp only [cq_L_276]
  rw [e1, e2, e3]
  exact rf_pcs (l := al_L_276) 0 ck_L_c_276 (List.isEmpty_iff.mp ck_L_n_276)
theorem ck_L_d_277 : ∀ alt ∈ cq_L_277.2.2.2, rf_run nm_cl nm_ct en_xs 8 xx_L kc_L cu_L po_L (some .boolean) 1 0 98 16364 (some cq_L_277.2.2.1) 5000 true cq_L_277.1 alt = true := by
  have e1 : cq_L_277.2.2.2 = al_L_277 := by dsimp only [cq_L_277]
  have e2 : cq_L_277.2.2.1 = mu_L_277 := by dsimp only [cq_L_277]
  have e3 : cq_L_277.1 = 1421 := by dsimp only [cq_L_277]
  rw [e1, e2, e3]
  exact rf_pcs (l := al_L_277) 0 ck_L_c_277 (List.isEmpty_iff.mp ck_L_n_277)
theorem ck_L_d_278 : ∀ alt ∈ cq_L_278.2.2.2, rf_run nm_cl nm_ct en_xs 8 xx_L kc_L cu_L po_L (some .boolean) 1 0 98 16364 (some cq_L_278.2.2.1) 5000 true cq_L_278.1 alt = true := by
  have e1 : cq_L_278.2.2.2 = al_L_278 := by dsimp only [cq_L_278]
  have e2 : cq_L_278.2.2.1 = mu_L_278 := by dsimp only [cq_L_278]
  have e3 : cq_L_278.1 = 1421 := by dsimp only [cq_L_278]
  rw [e1, e2, e3]
  exact rf_pcs (l := al_L_278) 0 ck_L_c_278 (List.isEmpty_iff.mp ck_L_n_278)
theorem ck_L_d_279 : ∀ alt ∈ cq_L_279.2.2.2, rf_run nm_cl nm_ct en_xs 8 xx_L kc_L cu_L po_L (some .boolean) 1 0 98 16364 (some cq_L_279.2.2.1) 5000 true cq_L_279.1 alt = true := by
  have e1 : cq_L_279.2.2.2 = al_L_279 := by dsimp only [cq_L_279]
  have e2 : cq_L_279.2.2.1 = mu_L_279 := by dsimp only [cq_L_279]
  have e3 : cq_L_279.1 = 1421 := by dsimp only [cq_L_279]
  rw [e1, e2, e3]
  exact rf_pcs (l := al_L_279) 0 ck_L_c_279 (List.isEmpty_iff.mp ck_L_n_279)
theorem ck_L_d_280 : ∀ alt ∈ cq_L_280.2.2.2, rf_run nm_cl nm_ct en_xs 8 xx_L kc_L cu_L po_L (some .boolean) 1 0 98 16364 (some cq_L_280.2.2.1) 5000 true cq_L_280.1 alt = true := by
  have e1 : cq_L_280.2.2.2 = al_L_280 := by dsimp only [cq_L_280]
  have e2 : cq_L_280.2.2.1 = mu_L_280 := by dsimp only [cq_L_280]
  have e3 : cq_L_280.1 = 1421 := by dsimp only [cq_L_280]
  rw [e1, e2, e3]
  exact rf_pcs (l := al_L_280) 0 ck_L_c_280 (List.isEmpty_iff.mp ck_L_n_280)
theorem ck_L_d_281 : ∀ alt ∈ cq_L_281.2.2.2, rf_run nm_cl nm_ct en_xs 8 xx_L kc_L cu_L po_L (some .boolean) 1 0 98 16364 (some cq_L_281.2.2.1) 5000 true cq_L_281.1 alt = true := by
  have e1 : cq_L_281.2.2.2 = al_L_281 := by dsimp only [cq_L_281]
  have e2 : cq_L_281.2.2.1 = mu_L_281 := by dsimp only [cq_L_281]
  have e3 : cq_L_281.1 = 1421 := by dsimp only [cq_L_281]
  rw [e1, e2, e3]
  exact rf_pcs (l := al_L_281) 0 ck_L_c_281 (List.isEmpty_iff.mp ck_L_n_281)
theorem ck_L_d_282 : ∀ alt ∈ cq_L_282.2.2.2, rf_run nm_cl nm_ct en_xs 8 xx_L kc_L cu_L po_L (some .boolean) 1 0 98 16364 (some cq_L_282.2.2.1) 5000 true cq_L_282.1 alt = true := by
  have e1 : cq_L_282.2.2.2 = al_L_282 := by dsimp only [cq_L_282]
  have e2 : cq_L_282.2.2.1 = mu_L_282 := by dsimp only [cq_L_282]
  have e3 : cq_L_282.1 = 1421 := by dsimp only [cq_L_282]
  rw [e1, e2, e3]
  exact rf_pcs (l := al_L_282) 0 ck_L_c_282 (List.isEmpty_iff.mp ck_L_n_282)
theorem ck_L_d_283 : ∀ alt ∈ cq_L_283.2.2.2, rf_run nm_cl nm_ct en_xs 8 xx_L kc_L cu_L po_L (some .boolean) 1 0 98 16364 (some cq_L_283.2.2.1) 5000 true cq_L_283.1 alt = true := by
  have e1 : cq_L_283.2.2.2 = al_L_283 := by dsimp only [cq_L_283]
  have e2 : cq_L_283.2.2.1 = mu_L_283 := by dsimp only [cq_L_283]
  have e3 : cq_L_283.1 = 1421 := by dsimp only [cq_L_283]
  rw [e1, e2, e3]
  exact rf_pcs (l := al_L_283) 0 ck_L_c_283 (List.isEmpty_iff.mp ck_L_n_283)
theorem ck_L_d_284 : ∀ alt ∈ cq_L_284.2.2.2, rf_run nm_cl nm_ct en_xs 8 xx_L kc_L cu_L po_L (some .boolean) 1 0 98 16364 (some cq_L_284.2.2.1) 5000 true cq_L_284.1 alt = true := by
  have e1 : cq_L_284.2.2.2 = al_L_284 := by dsimp only [cq_L_284]
  have e2 : cq_L_284.2.2.1 = mu_L_284 := by dsimp only [cq_L_284]
  have e3 : cq_L_284.1 = 1421 := by dsimp only [cq_L_284]
  rw [e1, e2, e3]
  exact rf_pcs (l := al_L_284) 0 ck_L_c_284 (List.isEmpty_iff.mp ck_L_n_284)
theorem ck_L_d_285 : ∀ alt ∈ cq_L_285.2.2.2, rf_run nm_cl nm_ct en_xs 8 xx_L kc_L cu_L po_L (some .boolean) 1 0 98 16364 (some cq_L_285.2.2.1) 5000 true cq_L_285.1 alt = true := by
  have e1 : cq_L_285.2.2.2 = al_L_285 := by dsimp only [cq_L_285]
  have e2 : cq_L_285.2.2.1 = mu_L_285 := by dsimp only [cq_L_285]
  have e3 : cq_L_285.1 = 1421 := by dsimp only [cq_L_285]
  rw [e1, e2, e3]
  exact rf_pcs (l := al_L_285) 0 ck_L_c_285 (List.isEmpty_iff.mp ck_L_n_285)
theorem ck_L_d_286 : ∀ alt ∈ cq_L_286.2.2.2, rf_run nm_cl nm_ct en_xs 8 xx_L kc_L cu_L po_L (some .boolean) 1 0 98 16364 (some cq_L_286.2.2.1) 5000 true cq_L_286.1 alt = true := by
  have e1 : cq_L_286.2.2.2 = al_L_286 := by dsimp only [cq_L_286]
  have e2 : cq_L_286.2.2.1 = mu_L_286 := by dsimp only [cq_L_286]
  have e3 : cq_L_286.1 = 1421 := by dsimp only [cq_L_286]
  rw [e1, e2, e3]
  exact rf_pcs (l := al_L_286) 1 ck_L_c_286 (List.isEmpty_iff.mp ck_L_n_286)
theorem ck_L_d_287 : ∀ alt ∈ cq_L_287.2.2.2, rf_run nm_cl nm_ct en_xs 8 xx_L kc_L cu_L po_L (some .boolean) 1 0 98 16364 (some cq_L_287.2.2.1) 5000 true cq_L_287.1 alt = true := by
  have e1 : cq_L_287.2.2.2 = al_L_287 := by dsimp only [cq_L_287]
  have e2 : cq_L_287.2.2.1 = mu_L_287 := by dsimp only [cq_L_287]
  have e3 : cq_L_287.1 = 1421 := by dsimp only [cq_L_287]
  rw [e1, e2, e3]
  exact rf_pcs (l := al_L_287) 0 ck_L_c_287 (List.isEmpty_iff.mp ck_L_n_287)
theorem ck_L_d_288 : ∀ alt ∈ cq_L_288.2.2.2, rf_run nm_cl nm_ct en_xs 8 xx_L kc_L cu_L po_L (some .boolean) 1 0 98 16364 (some cq_L_288.2.2.1) 5000 true cq_L_288.1 alt = true := by
  have e1 : cq_L_288.2.2.2 = al_L_288 := by dsimp only [cq_L_288]
  have e2 : cq_L_288.2.2.1 = mu_L_288 := by dsimp only [cq_L_288]
  have e3 : cq_L_288.1 = 1421 := by dsimp only [cq_L_288]
  rw [e1, e2, e3]
  exact rf_pcs (l := al_L_288) 0 ck_L_c_288 (List.isEmpty_iff.mp ck_L_n_288)
theorem ck_L_d_289 : ∀ alt ∈ cq_L_289.2.2.2, rf_run nm_cl nm_ct en_xs 8 xx_L kc_L cu_L po_L (some .boolean) 1 0 98 16364 (some cq_L_289.2.2.1) 5000 true cq_L_289.1 alt = true := by
  have e1 : cq_L_289.2.2.2 = al_L_289 := by dsimp only [cq_L_289]
  have e2 : cq_L_289.2.2.1 = mu_L_289 := by dsimp only [cq_L_289]
  have e3 : cq_L_289.1 = 1421 := by dsimp only [cq_L_289]
  rw [e1, e2, e3]
  exact rf_pcs (l := al_L_289) 0 ck_L_c_289 (List.isEmpty_iff.mp ck_L_n_289)
theorem ck_L_d_290 : ∀ alt ∈ cq_L_290.2.2.2, rf_run nm_cl nm_ct en_xs 8 xx_L kc_L cu_L po_L (some .boolean) 1 0 98 16364 (some cq_L_290.2.2.1) 5000 true cq_L_290.1 alt = true := by
  have e1 : cq_L_290.2.2.2 = al_L_290 := by dsimp only [cq_L_290]
  have e2 : cq_L_290.2.2.1 = mu_L_290 := by dsimp only [cq_L_290]
  have e3 : cq_L_290.1 = 1421 := by dsimp only [cq_L_290]
  rw [e1, e2, e3]
  exact rf_pcs (l := al_L_290) 0 ck_L_c_290 (List.isEmpty_iff.mp ck_L_n_290)
theorem ck_L_d_291 : ∀ alt ∈ cq_L_291.2.2.2, rf_run nm_cl nm_ct en_xs 8 xx_L kc_L cu_L po_L (some .boolean) 1 0 98 16364 (some cq_L_291.2.2.1) 5000 true cq_L_291.1 alt = true := by
  have e1 : cq_L_291.2.2.2 = al_L_291 := by dsimp only [cq_L_291]
  have e2 : cq_L_291.2.2.1 = mu_L_291 := by dsimp only [cq_L_291]
  have e3 : cq_L_291.1 = 1421 := by dsimp only [cq_L_291]
  rw [e1, e2, e3]
  exact rf_pcs (l := al_L_291) 0 ck_L_c_291 (List.isEmpty_iff.mp ck_L_n_291)
theorem ck_L_d_292 : ∀ alt ∈ cq_L_292.2.2.2, rf_run nm_cl nm_ct en_xs 8 xx_L kc_L cu_L po_L (some .boolean) 1 0 98 16364 (some cq_L_292.2.2.1) 5000 true cq_L_292.1 alt = true := by
  have e1 : cq_L_292.2.2.2 = al_L_292 := by dsimp only [cq_L_292]
  have e2 : cq_L_292.2.2.1 = mu_L_292 := by dsimp only [cq_L_292]
  have e3 : cq_L_292.1 = 1421 := by dsimp only [cq_L_292]
  rw [e1, e2, e3]
  exact rf_pcs (l := al_L_292) 0 ck_L_c_292 (List.isEmpty_iff.mp ck_L_n_292)
theorem ck_L_d_293 : ∀ alt ∈ cq_L_293.2.2.2, rf_run nm_cl nm_ct en_xs 8 xx_L kc_L cu_L po_L (some .boolean) 1 0 98 16364 (some cq_L_293.2.2.1) 5000 true cq_L_293.1 alt = true := by
  have e1 : cq_L_293.2.2.2 = al_L_293 := by dsimp only [cq_L_293]
  have e2 : cq_L_293.2.2.1 = mu_L_293 := by dsimp only [cq_L_293]
  have e3 : cq_L_293.1 = 1421 := by dsimp only [cq_L_293]
  rw [e1, e2, e3]
  exact rf_pcs (l := al_L_293) 0 ck_L_c_293 (List.isEmpty_iff.mp ck_L_n_293)
theorem ck_L_d_294 : ∀ alt ∈ cq_L_294.2.2.2, rf_run nm_cl nm_ct en_xs 8 xx_L kc_L cu_L po_L (some .boolean) 1 0 98 16364 (some cq_L_294.2.2.1) 5000 true cq_L_294.1 alt = true := by
  have e1 : cq_L_294.2.2.2 = al_L_294 := by dsimp only [cq_L_294]
  have e2 : cq_L_294.2.2.1 = mu_L_294 := by dsimp only [cq_L_294]
  have e3 : cq_L_294.1 = 1421 := by dsimp only [cq_L_294]
  rw [e1, e2, e3]
  exact rf_pcs (l := al_L_294) 0 ck_L_c_294 (List.isEmpty_iff.mp ck_L_n_294)
theorem ck_L_d_295 : ∀ alt ∈ cq_L_295.2.2.2, rf_run nm_cl nm_ct en_xs 8 xx_L kc_L cu_L po_L (some .boolean) 1 0 98 16364 (some cq_L_295.2.2.1) 5000 true cq_L_295.1 alt = true := by
  have e1 : cq_L_295.2.2.2 = al_L_295 := by dsimp only [cq_L_295]
  have e2 : cq_L_295.2.2.1 = mu_L_295 := by dsimp only [cq_L_295]
  have e3 : cq_L_295.1 = 1421 := by dsimp only [cq_L_295]
  rw [e1, e2, e3]
  exact rf_pcs (l := al_L_295) 0 ck_L_c_295 (List.isEmpty_iff.mp ck_L_n_295)
theorem ck_L_d_296 : ∀ alt ∈ cq_L_296.2.2.2, rf_run nm_cl nm_ct en_xs 8 xx_L kc_L cu_L po_L (some .boolean) 1 0 98 16364 (some cq_L_296.2.2.1) 5000 true cq_L_296.1 alt = true := by
  have e1 : cq_L_296.2.2.2 = al_L_296 := by dsimp only [cq_L_296]
  have e2 : cq_L_296.2.2.1 = mu_L_296 := by dsimp only [cq_L_296]
  have e3 : cq_L_296.1 = 1421 := by dsimp only [cq_L_296]
  rw [e1, e2, e3]
  exact rf_pcs (l := al_L_296) 0 ck_L_c_296 (List.isEmpty_iff.mp ck_L_n_296)
theorem ck_L_d_297 : ∀ alt ∈ cq_L_297.2.2.2, rf_run nm_cl nm_ct en_xs 8 xx_L kc_L cu_L po_L (some .boolean) 1 0 98 16364 (some cq_L_297.2.2.1) 5000 true cq_L_297.1 alt = true := by
  have e1 : cq_L_297.2.2.2 = al_L_297 := by dsimp only [cq_L_297]
  have e2 : cq_L_297.2.2.1 = mu_L_297 := by dsimp only [cq_L_297]
  have e3 : cq_L_297.1 = 1421 := by dsimp only [cq_L_297]
  rw [e1, e2, e3]
  exact rf_pcs (l := al_L_297) 0 ck_L_c_297 (List.isEmpty_iff.mp ck_L_n_297)
theorem ck_L_d_298 : ∀ alt ∈ cq_L_298.2.2.2, rf_run nm_cl nm_ct en_xs 8 xx_L kc_L cu_L po_L (some .boolean) 1 0 98 16364 (some cq_L_298.2.2.1) 5000 true cq_L_298.1 alt = true := by
  have e1 : cq_L_298.2.2.2 = al_L_298 := by dsimp only [cq_L_298]
  have e2 : cq_L_298.2.2.1 = mu_L_298 := by dsimp only [cq_L_298]
  have e3 : cq_L_298.1 = 1421 := by dsimp only [cq_L_298]
  rw [e1, e2, e3]
  exact rf_pcs (l := al_L_298) 0 ck_L_c_298 (List.isEmpty_iff.mp ck_L_n_298)
theorem ck_L_d_299 : ∀ alt ∈ cq_L_299.2.2.2, rf_run nm_cl nm_ct en_xs 8 xx_L kc_L cu_L po_L (some .boolean) 1 0 98 16364 (some cq_L_299.2.2.1) 5000 true cq_L_299.1 alt = true := by
  have e1 : cq_L_299.2.2.2 = al_L_299 := by dsimp only [cq_L_299]
  have e2 : cq_L_299.2.2.1 = mu_L_299 := by dsimp only [cq_L_299]
  have e3 : cq_L_299.1 = 1421 := by dsimp only [cq_L_299]
  rw [e1, e2, e3]
  exact rf_pcs (l := al_L_299) 1 ck_L_c_299 (List.isEmpty_iff.mp ck_L_n_299)
theorem ck_L_d_300 : ∀ alt ∈ cq_L_300.2.2.2, rf_run nm_cl nm_ct en_xs 8 xx_L kc_L cu_L po_L (some .boolean) 1 0 98 16364 (some cq_L_300.2.2.1) 5000 true cq_L_300.1 alt = true := by
  have e1 : cq_L_300.2.2.2 = al_L_300 := by dsimp only [cq_L_300]
  have e2 : cq_L_300.2.2.1 = mu_L_300 := by dsimp only [cq_L_300]
  have e3 : cq_L_300.1 = 1421 := by dsimp only [cq_L_300]
  rw [e1, e2, e3]
  exact rf_pcs (l := al_L_300) 0 ck_L_c_300 (List.isEmpty_iff.mp ck_L_n_300)
theorem ck_L_d_301 : ∀ alt ∈ cq_L_301.2.2.2, rf_run nm_cl nm_ct en_xs 8 xx_L kc_L cu_L po_L (some .boolean) 1 0 98 16364 (some cq_L_301.2.2.1) 5000 true cq_L_301.1 alt = true := by
  have e1 : cq_L_301.2.2.2 = al_L_301 := by dsimp only [cq_L_301]
  have e2 : cq_L_301.2.2.1 = mu_L_301 := by dsimp only [cq_L_301]
  have e3 : cq_L_301.1 = 1421 := by dsimp only [cq_L_301]
  rw [e1, e2, e3]
  exact rf_pcs (l := al_L_301) 1 ck_L_c_301 (List.isEmpty_iff.mp ck_L_n_301)
theorem ck_L_d_302 : ∀ alt ∈ cq_L_302.2.2.2, rf_run nm_cl nm_ct en_xs 8 xx_L kc_L cu_L po_L (some .boolean) 1 0 98 16364 (some cq_L_302.2.2.1) 5000 true cq_L_302.1 alt = true := by
  have e1 : cq_L_302.2.2.2 = al_L_302 := by dsimp only [cq_L_302]
  have e2 : cq_L_302.2.2.1 = mu_L_302 := by dsimp only [cq_L_302]
  have e3 : cq_L_302.1 = 1421 := by dsimp only [cq_L_302]
  rw [e1, e2, e3]
  exact rf_pcs (l := al_L_302) 0 ck_L_c_302 (List.isEmpty_iff.mp ck_L_n_302)
theorem ck_L_d_303 : ∀ alt ∈ cq_L_303.2.2.2, rf_run nm_cl nm_ct en_xs 8 xx_L kc_L cu_L po_L (some .boolean) 1 0 98 16364 (some cq_L_303.2.2.1) 5000 true cq_L_303.1 alt = true := by
  have e1 : cq_L_303.2.2.2 = al_L_303 := by dsimp only [cq_L_303]
  have e2 : cq_L_303.2.2.1 = mu_L_303 := by dsimp only [cq_L_303]
  have e3 : cq_L_303.1 = 1421 := by dsimp only [cq_L_303]
  rw [e1, e2, e3]
  exact rf_pcs (l := al_L_303) 0 ck_L_c_303 (List.isEmpty_iff.mp ck_L_n_303)
theorem ck_L_d_304 : ∀ alt ∈ cq_L_304.2.2.2, rf_run nm_cl nm_ct en_xs 8 xx_L kc_L cu_L po_L (some .boolean) 1 0 98 16364 (some cq_L_304.2.2.1) 5000 true cq_L_304.1 alt = true := by
  have e1 : cq_L_304.2.2.2 = al_L_304 := by dsimp only [cq_L_304]
  have e2 : cq_L_304.2.2.1 = mu_L_304 := by dsimp only [cq_L_304]
  have e3 : cq_L_304.1 = 1421 := by dsimp only [cq_L_304]
  rw [e1, e2, e3]
  exact rf_pcs (l := al_L_304) 0 ck_L_c_304 (List.isEmpty_iff.mp ck_L_n_304)
theorem ck_L_d_305 : ∀ alt ∈ cq_L_305.2.2.2, rf_run nm_cl nm_ct en_xs 8 xx_L kc_L cu_L po_L (some .boolean) 1 0 98 16364 (some cq_L_305.2.2.1) 5000 true cq_L_305.1 alt = true := by
  have e1 : cq_L_305.2.2.2 = al_L_305 := by dsimp only [cq_L_305]
  have e2 : cq_L_305.2.2.1 = mu_L_305 := by dsimp only [cq_L_305]
  have e3 : cq_L_305.1 = 1421 := by dsimp only [cq_L_305]
  rw [e1, e2, e3]
  exact rf_pcs (l := al_L_305) 0 ck_L_c_305 (List.isEmpty_iff.mp ck_L_n_305)
theorem ck_L_d_306 : ∀ alt ∈ cq_L_306.2.2.2, rf_run nm_cl nm_ct en_xs 8 xx_L kc_L cu_L po_L (some .boolean) 1 0 98 16364 (some cq_L_306.2.2.1) 5000 true cq_L_306.1 alt = true := by
  have e1 : cq_L_306.2.2.2 = al_L_306 := by dsimp only [cq_L_306]
  have e2 : cq_L_306.2.2.1 = mu_L_306 := by dsimp only [cq_L_306]
  have e3 : cq_L_306.1 = 1421 := by dsimp only [cq_L_306]
  rw [e1, e2, e3]
  exact rf_pcs (l := al_L_306) 0 ck_L_c_306 (List.isEmpty_iff.mp ck_L_n_306)
theorem ck_L_d_307 : ∀ alt ∈ cq_L_307.2.2.2, rf_run nm_cl nm_ct en_xs 8 xx_L kc_L cu_L po_L (some .boolean) 1 0 98 16364 (some cq_L_307.2.2.1) 5000 true cq_L_307.1 alt = true := by
  have e1 : cq_L_307.2.2.2 = al_L_307 := by dsimp only [cq_L_307]
  have e2 : cq_L_307.2.2.1 = mu_L_307 := by dsimp only [cq_L_307]
  have e3 : cq_L_307.1 = 1421 := by dsimp only [cq_L_307]
  rw [e1, e2, e3]
  exact rf_pcs (l := al_L_307) 0 ck_L_c_307 (List.isEmpty_iff.mp ck_L_n_307)
theorem ck_L_d_308 : ∀ alt ∈ cq_L_308.2.2.2, rf_run nm_cl nm_ct en_xs 8 xx_L kc_L cu_L po_L (some .boolean) 1 0 98 16364 (some cq_L_308.2.2.1) 5000 true cq_L_308.1 alt = true := by
  have e1 : cq_L_308.2.2.2 = al_L_308 := by dsimp only [cq_L_308]
  have e2 : cq_L_308.2.2.1 = mu_L_308 := by dsimp only [cq_L_308]
  have e3 : cq_L_308.1 = 1421 := by dsimp only [cq_L_308]
  rw [e1, e2, e3]
  exact rf_pcs (l := al_L_308) 0 ck_L_c_308 (List.isEmpty_iff.mp ck_L_n_308)
theorem ck_L_d_309 : ∀ alt ∈ cq_L_309.2.2.2, rf_run nm_cl nm_ct en_xs 8 xx_L kc_L cu_L po_L (some .boolean) 1 0 98 16364 (some cq_L_309.2.2.1) 5000 true cq_L_309.1 alt = true := by
  have e1 : cq_L_309.2.2.2 = al_L_309 := by dsimp only [cq_L_309]
  have e2 : cq_L_309.2.2.1 = mu_L_309 := by dsimp only [cq_L_309]
  have e3 : cq_L_309.1 = 1421 := by dsimp only [cq_L_309]
  rw [e1, e2, e3]
  exact rf_pcs (l := al_L_309) 0 ck_L_c_309 (List.isEmpty_iff.mp ck_L_n_309)
theorem ck_L_d_310 : ∀ alt ∈ cq_L_310.2.2.2, rf_run nm_cl nm_ct en_xs 8 xx_L kc_L cu_L po_L (some .boolean) 1 0 98 16364 (some cq_L_310.2.2.1) 5000 true cq_L_310.1 alt = true := by
  have e1 : cq_L_310.2.2.2 = al_L_310 := by dsimp only [cq_L_310]
  have e2 : cq_L_310.2.2.1 = mu_L_310 := by dsimp only [cq_L_310]
  have e3 : cq_L_310.1 = 1421 := by dsimp only [cq_L_310]
  rw [e1, e2, e3]
  exact rf_pcs (l := al_L_310) 0 ck_L_c_310 (List.isEmpty_iff.mp ck_L_n_310)
theorem ck_L_d_311 : ∀ alt ∈ cq_L_311.2.2.2, rf_run nm_cl nm_ct en_xs 8 xx_L kc_L cu_L po_L (some .boolean) 1 0 98 16364 (some cq_L_311.2.2.1) 5000 true cq_L_311.1 alt = true := by
  have e1 : cq_L_311.2.2.2 = al_L_311 := by dsimp only [cq_L_311]
  have e2 : cq_L_311.2.2.1 = mu_L_311 := by dsimp only [cq_L_311]
  have e3 : cq_L_311.1 = 1421 := by dsimp only [cq_L_311]
  rw [e1, e2, e3]
  exact rf_pcs (l := al_L_311) 1 ck_L_c_311 (List.isEmpty_iff.mp ck_L_n_311)
theorem ck_L_d_312 : ∀ alt ∈ cq_L_312.2.2.2, rf_run nm_cl nm_ct en_xs 8 xx_L kc_L cu_L po_L (some .boolean) 1 0 98 16364 (some cq_L_312.2.2.1) 5000 true cq_L_312.1 alt = true := by
  have e1 : cq_L_312.2.2.2 = al_L_312 := by dsimp only [cq_L_312]
  have e2 : cq_L_312.2.2.1 = mu_L_312 := by dsimp only [cq_L_312]
  have e3 : cq_L_312.1 = 1421 := by dsimp only [cq_L_312]
  rw [e1, e2, e3]
  exact rf_pcs (l := al_L_312) 0 ck_L_c_312 (List.isEmpty_iff.mp ck_L_n_312)
theorem ck_L_d_313 : ∀ alt ∈ cq_L_313.2.2.2, rf_run nm_cl nm_ct en_xs 8 xx_L kc_L cu_L po_L (some .boolean) 1 0 98 16364 (some cq_L_313.2.2.1) 5000 true cq_L_313.1 alt = true := by
  have e1 : cq_L_313.2.2.2 = al_L_313 := by dsimp only [cq_L_313]
  have e2 : cq_L_313.2.2.1 = mu_L_313 := by dsimp only [cq_L_313]
  have e3 : cq_L_313.1 = 1421 := by dsimp only [cq_L_313]
  rw [e1, e2, e3]
  exact rf_pcs (l := al_L_313) 0 ck_L_c_313 (List.isEmpty_iff.mp ck_L_n_313)
theorem ck_L_d_314 : ∀ alt ∈ cq_L_314.2.2.2, rf_run nm_cl nm_ct en_xs 8 xx_L kc_L cu_L po_L (some .boolean) 1 0 98 16364 (some cq_L_314.2.2.1) 5000 true cq_L_314.1 alt = true := by
  have e1 : cq_L_314.2.2.2 = al_L_314 := by dsimp only [cq_L_314]
  have e2 : cq_L_314.2.2.1 = mu_L_314 := by dsimp only [cq_L_314]
  have e3 : cq_L_314.1 = 1421 := by dsimp only [cq_L_314]
  rw [e1, e2, e3]
  exact rf_pcs (l := al_L_314) 0 ck_L_c_314 (List.isEmpty_iff.mp ck_L_n_314)
theorem ck_L_d_315 : ∀ alt ∈ cq_L_315.2.2.2, rf_run nm_cl nm_ct en_xs 8 xx_L kc_L cu_L po_L (some .boolean) 1 0 98 16364 (some cq_L_315.2.2.1) 5000 true cq_L_315.1 alt = true := by
  have e1 : cq_L_315.2.2.2 = al_L_315 := by dsimp only [cq_L_315]
  have e2 : cq_L_315.2.2.1 = mu_L_315 := by dsimp only [cq_L_315]
  have e3 : cq_L_315.1 = 1421 := by dsimp only [cq_L_315]
  rw [e1, e2, e3]
  exact rf_pcs (l := al_L_315) 0 ck_L_c_315 (List.isEmpty_iff.mp ck_L_n_315)
theorem ck_L_d_316 : ∀ alt ∈ cq_L_316.2.2.2, rf_run nm_cl nm_ct en_xs 8 xx_L kc_L cu_L po_L (some .boolean) 1 0 98 16364 (some cq_L_316.2.2.1) 5000 true cq_L_316.1 alt = true := by
  have e1 : cq_L_316.2.2.2 = al_L_316 := by dsimp only [cq_L_316]
  have e2 : cq_L_316.2.2.1 = mu_L_316 := by dsimp only [cq_L_316]
  have e3 : cq_L_316.1 = 1421 := by dsimp only [cq_L_316]
  rw [e1, e2, e3]
  exact rf_pcs (l := al_L_316) 0 ck_L_c_316 (List.isEmpty_iff.mp ck_L_n_316)
theorem ck_L_d_317 : ∀ alt ∈ cq_L_317.2.2.2, rf_run nm_cl nm_ct en_xs 8 xx_L kc_L cu_L po_L (some .boolean) 1 0 98 16364 (some cq_L_317.2.2.1) 5000 true cq_L_317.1 alt = true := by
  have e1 : cq_L_317.2.2.2 = al_L_317 := by dsimp only [cq_L_317]
  have e2 : cq_L_317.2.2.1 = mu_L_317 := by dsimp only [cq_L_317]
  have e3 : cq_L_317.1 = 1421 := by dsimp only [cq_L_317]
  rw [e1, e2, e3]
  exact rf_pcs (l := al_L_317) 0 ck_L_c_317 (List.isEmpty_iff.mp ck_L_n_317)
theorem ck_L_d_318 : ∀ alt ∈ cq_L_318.2.2.2, rf_run nm_cl nm_ct en_xs 8 xx_L kc_L cu_L po_L (some .boolean) 1 0 98 16364 (some cq_L_318.2.2.1) 5000 true cq_L_318.1 alt = true := by
  have e1 : cq_L_318.2.2.2 = al_L_318 := by dsimp only [cq_L_318]
  have e2 : cq_L_318.2.2.1 = mu_L_318 := by dsimp only [cq_L_318]
  have e3 : cq_L_318.1 = 1421 := by dsimp only [cq_L_318]
  rw [e1, e2, e3]
  exact rf_pcs (l := al_L_318) 0 ck_L_c_318 (List.isEmpty_iff.mp ck_L_n_318)
theorem ck_L_d_319 : ∀ alt ∈ cq_L_319.2.2.2, rf_run nm_cl nm_ct en_xs 8 xx_L kc_L cu_L po_L (some .boolean) 1 0 98 16364 (some cq_L_319.2.2.1) 5000 true cq_L_319.1 alt = true := by
  have e1 : cq_L_319.2.2.2 = al_L_319 := by dsimp only [cq_L_319]
  have e2 : cq_L_319.2.2.1 = mu_L_319 := by dsimp only [cq_L_319]
  have e3 : cq_L_319.1 = 1421 := by dsimp only [cq_L_319]
  rw [e1, e2, e3]
  exact rf_pcs (l := al_L_319) 0 ck_L_c_319 (List.isEmpty_iff.mp ck_L_n_319)
theorem ck_L_d_320 : ∀ alt ∈ cq_L_320.2.2.2, rf_run nm_cl nm_ct en_xs 8 xx_L kc_L cu_L po_L (some .boolean) 1 0 98 16364 (some cq_L_320.2.2.1) 5000 true cq_L_320.1 alt = true := by
  have e1 : cq_L_320.2.2.2 = al_L_320 := by dsimp only [cq_L_320]
  have e2 : cq_L_320.2.2.1 = mu_L_320 := by dsimp only [cq_L_320]
  have e3 : cq_L_320.1 = 1421 := by dsimp only [cq_L_320]
  rw [e1, e2, e3]
  exact rf_pcs (l := al_L_320) 0 ck_L_c_320 (List.isEmpty_iff.mp ck_L_n_320)
theorem ck_L_d_321 : ∀ alt ∈ cq_L_321.2.2.2, rf_run nm_cl nm_ct en_xs 8 xx_L kc_L cu_L po_L (some .boolean) 1 0 98 16364 (some cq_L_321.2.2.1) 5000 true cq_L_321.1 alt = true := by
  have e1 : cq_L_321.2.2.2 = al_L_321 := by dsimp only [cq_L_321]
  have e2 : cq_L_321.2.2.1 = mu_L_321 := by dsimp only [cq_L_321]
  have e3 : cq_L_321.1 = 1421 := by dsimp only [cq_L_321]
  rw [e1, e2, e3]
  exact rf_pcs (l := al_L_321) 0 ck_L_c_321 (List.isEmpty_iff.mp ck_L_n_321)
theorem ck_L_d_322 : ∀ alt ∈ cq_L_322.2.2.2, rf_run nm_cl nm_ct en_xs 8 xx_L kc_L cu_L po_L (some .boolean) 1 0 98 16364 (some cq_L_322.2.2.1) 5000 true cq_L_322.1 alt = true := by
  have e1 : cq_L_322.2.2.2 = al_L_322 := by dsimp only [cq_L_322]
  have e2 : cq_L_322.2.2.1 = mu_L_322 := by dsimp only [cq_L_322]
  have e3 : cq_L_322.1 = 1421 := by dsimp only [cq_L_322]
  rw [e1, e2, e3]
  exact rf_pcs (l := al_L_322) 0 ck_L_c_322 (List.isEmpty_iff.mp ck_L_n_322)
theorem ck_L_d_323 : ∀ alt ∈ cq_L_323.2.2.2, rf_run nm_cl nm_ct en_xs 8 xx_L kc_L cu_L po_L (some .boolean) 1 0 98 16364 (some cq_L_323.2.2.1) 5000 true cq_L_323.1 alt = true := by
  have e1 : cq_L_323.2.2.2 = al_L_323 := by dsimp only [cq_L_323]
  have e2 : cq_L_323.2.2.1 = mu_L_323 := by dsimp only [cq_L_323]
  have e3 : cq_L_323.1 = 1421 := by dsimp only [cq_L_323]
  rw [e1, e2, e3]
  exact rf_pcs (l := al_L_323) 1 ck_L_c_323 (List.isEmpty_iff.mp ck_L_n_323)
theorem ck_L_d_324 : ∀ alt ∈ cq_L_324.2.2.2, rf_run nm_cl nm_ct en_xs 8 xx_L kc_L cu_L po_L (some .boolean) 1 0 98 16364 (some cq_L_324.2.2.1) 5000 true cq_L_324.1 alt = true := by
  have e1 : cq_L_324.2.2.2 = al_L_324 := by dsimp only [cq_L_324]
  have e2 : cq_L_324.2.2.1 = mu_L_324 := by dsimp only [cq_L_324]
  have e3 : cq_L_324.1 = 1421 := by dsimp only [cq_L_324]
  rw [e1, e2, e3]
  exact rf_pcs (l := al_L_324) 0 ck_L_c_324 (List.isEmpty_iff.mp ck_L_n_324)
theorem ck_L_d_325 : ∀ alt ∈ cq_L_325.2.2.2, rf_run nm_cl nm_ct en_xs 8 xx_L kc_L cu_L po_L (some .boolean) 1 0 98 16364 (some cq_L_325.2.2.1) 5000 true cq_L_325.1 alt = true := by
  have e1 : cq_L_325.2.2.2 = al_L_325 := by dsimp only [cq_L_325]
  have e2 : cq_L_325.2.2.1 = mu_L_325 := by dsimp only [cq_L_325]
  have e3 : cq_L_325.1 = 1421 := by dsimp only [cq_L_325]
  rw [e1, e2, e3]
  exact rf_pcs (l := al_L_325) 0 ck_L_c_325 (List.isEmpty_iff.mp ck_L_n_325)
theorem ck_L_d_326 : ∀ alt ∈ cq_L_326.2.2.2, rf_run nm_cl nm_ct en_xs 8 xx_L kc_L cu_L po_L (some .boolean) 1 0 98 16364 (some cq_L_326.2.2.1) 5000 true cq_L_326.1 alt = true := by
  have e1 : cq_L_326.2.2.2 = al_L_326 := by dsimp only [cq_L_326]
  have e2 : cq_L_326.2.2.1 = mu_L_326 := by dsimp only [cq_L_326]
  have e3 : cq_L_326.1 = 1421 := by dsimp only [cq_L_326]
  rw [e1, e2, e3]
  exact rf_pcs (l := al_L_326) 0 ck_L_c_326 (List.isEmpty_iff.mp ck_L_n_326)
theorem ck_L_d_327 : ∀ alt ∈ cq_L_327.2.2.2, rf_run nm_cl nm_ct en_xs 8 xx_L kc_L cu_L po_L (some .boolean) 1 0 98 16364 (some cq_L_327.2.2.1) 5000 true cq_L_327.1 alt = true := by
  have e1 : cq_L_327.2.2.2 = al_L_327 := by dsimp only [cq_L_327]
  have e2 : cq_L_327.2.2.1 = mu_L_327 := by dsimp only [cq_L_327]
  have e3 : cq_L_327.1 = 1421 := by dsimp only [cq_L_327]
  rw [e1, e2, e3]
  exact rf_pcs (l := al_L_327) 0 ck_L_c_327 (List.isEmpty_iff.mp ck_L_n_327)
theorem ck_L_d_328 : ∀ alt ∈ cq_L_328.2.2.2, rf_run nm_cl nm_ct en_xs 8 xx_L kc_L cu_L po_L (some .boolean) 1 0 98 16364 (some cq_L_328.2.2.1) 5000 true cq_L_328.1 alt = true := by
  have e1 : cq_L_328.2.2.2 = al_L_328 := by dsimp only [cq_L_328]
  have e2 : cq_L_328.2.2.1 = mu_L_328 := by dsimp only [cq_L_328]
  have e3 : cq_L_328.1 = 1421 := by dsimp only [cq_L_328]
  rw [e1, e2, e3]
  exact rf_pcs (l := al_L_328) 0 ck_L_c_328 (List.isEmpty_iff.mp ck_L_n_328)
theorem ck_L_d_329 : ∀ alt ∈ cq_L_329.2.2.2, rf_run nm_cl nm_ct en_xs 8 xx_L kc_L cu_L po_L (some .boolean) 1 0 98 16364 (some cq_L_329.2.2.1) 5000 true cq_L_329.1 alt = true := by
  have e1 : cq_L_329.2.2.2 = al_L_329 := by dsimp only [cq_L_329]
  have e2 : cq_L_329.2.2.1 = mu_L_329 := by dsimp only [cq_L_329]
  have e3 : cq_L_329.1 = 1421 := by dsimp only [cq_L_329]
  rw [e1, e2, e3]
  exact rf_pcs (l := al_L_329) 0 ck_L_c_329 (List.isEmpty_iff.mp ck_L_n_329)
theorem ck_L_d_330 : ∀ alt ∈ cq_L_330.2.2.2, rf_run nm_cl nm_ct en_xs 8 xx_L kc_L cu_L po_L (some .boolean) 1 0 98 16364 (some cq_L_330.2.2.1) 5000 true cq_L_330.1 alt = true := by
  have e1 : cq_L_330.2.2.2 = al_L_330 := by dsimp only [cq_L_330]
  have e2 : cq_L_330.2.2.1 = mu_L_330 := by dsimp only [cq_L_330]
  have e3 : cq_L_330.1 = 1421 := by dsimp only [cq_L_330]
  rw [e1, e2, e3]
  exact rf_pcs (l := al_L_330) 0 ck_L_c_330 (List.isEmpty_iff.mp ck_L_n_330)
theorem ck_L_d_331 : ∀ alt ∈ cq_L_331.2.2.2, rf_run nm_cl nm_ct en_xs 8 xx_L kc_L cu_L po_L (some .boolean) 1 0 98 16364 (some cq_L_331.2.2.1) 5000 true cq_L_331.1 alt = true := by
  have e1 : cq_L_331.2.2.2 = al_L_331 := by dsimp only [cq_L_331]
  have e2 : cq_L_331.2.2.1 = mu_L_331 := by dsimp only [cq_L_331]
  have e3 : cq_L_331.1 = 1421 := by dsimp only [cq_L_331]
  rw [e1, e2, e3]
  exact rf_pcs (l := al_L_331) 0 ck_L_c_331 (List.isEmpty_iff.mp ck_L_n_331)
theorem ck_L_d_332 : ∀ alt ∈ cq_L_332.2.2.2, rf_run nm_cl nm_ct en_xs 8 xx_L kc_L cu_L po_L (some .boolean) 1 0 98 16364 (some cq_L_332.2.2.1) 5000 true cq_L_332.1 alt = true := by
  have e1 : cq_L_332.2.2.2 = al_L_332 := by dsimp only [cq_L_332]
  have e2 : cq_L_332.2.2.1 = mu_L_332 := by dsimp only [cq_L_332]
  have e3 : cq_L_332.1 = 1421 := by dsimp only [cq_L_332]
  rw [e1, e2, e3]
  exact rf_pcs (l := al_L_332) 0 ck_L_c_332 (List.isEmpty_iff.mp ck_L_n_332)
theorem ck_L_d_333 : ∀ alt ∈ cq_L_333.2.2.2, rf_run nm_cl nm_ct en_xs 8 xx_L kc_L cu_L po_L (some .boolean) 1 0 98 16364 (some cq_L_333.2.2.1) 5000 true cq_L_333.1 alt = true := by
  have e1 : cq_L_333.2.2.2 = al_L_333 := by dsimp only [cq_L_333]
  have e2 : cq_L_333.2.2.1 = mu_L_333 := by dsimp only [cq_L_333]
  have e3 : cq_L_333.1 = 1421 := by dsimp only [cq_L_333]
  rw [e1, e2, e3]
  exact rf_pcs (l := al_L_333) 0 ck_L_c_333 (List.isEmpty_iff.mp ck_L_n_333)
theorem ck_L_d_334 : ∀ alt ∈ cq_L_334.2.2.2, rf_run nm_cl nm_ct en_xs 8 xx_L kc_L cu_L po_L (some .boolean) 1 0 98 16364 (some cq_L_334.2.2.1) 5000 true cq_L_334.1 alt = true := by
  have e1 : cq_L_334.2.2.2 = al_L_334 := by dsimp only [cq_L_334]
  have e2 : cq_L_334.2.2.1 = mu_L_334 := by dsimp only [cq_L_334]
  have e3 : cq_L_334.1 = 1421 := by dsimp only [cq_L_334]
  rw [e1, e2, e3]
  exact rf_pcs (l := al_L_334) 0 ck_L_c_334 (List.isEmpty_iff.mp ck_L_n_334)
theorem ck_L_d_335 : ∀ alt ∈ cq_L_335.2.2.2, rf_run nm_cl nm_ct en_xs 8 xx_L kc_L cu_L po_L (some .boolean) 1 0 98 16364 (some cq_L_335.2.2.1) 5000 true cq_L_335.1 alt = true := by
  have e1 : cq_L_335.2.2.2 = al_L_335 := by dsimp only [cq_L_335]
  have e2 : cq_L_335.2.2.1 = mu_L_335 := by dsimp only [cq_L_335]
  have e3 : cq_L_335.1 = 1421 := by dsimp only [cq_L_335]
  rw [e1, e2, e3]
  exact rf_pcs (l := al_L_335) 0 ck_L_c_335 (List.isEmpty_iff.mp ck_L_n_335)
theorem ck_L_d_336 : ∀ alt ∈ cq_L_336.2.2.2, rf_run nm_cl nm_ct en_xs 8 xx_L kc_L cu_L po_L (some .boolean) 1 0 98 16364 (some cq_L_336.2.2.1) 5000 true cq_L_336.1 alt = true := by
  have e1 : cq_L_336.2.2.2 = al_L_336 := by dsimp only [cq_L_336]
  have e2 : cq_L_336.2.2.1 = mu_L_336 := by dsimp only [cq_L_336]
  have e3 : cq_L_336.1 = 1421 := by dsimp only [cq_L_336]
  rw [e1, e2, e3]
  exact rf_pcs (l := al_L_336) 1 ck_L_c_336 (List.isEmpty_iff.mp ck_L_n_336)
theorem ck_L_d_337 : ∀ alt ∈ cq_L_337.2.2.2, rf_run nm_cl nm_ct en_xs 8 xx_L kc_L cu_L po_L (some .boolean) 1 0 98 16364 (some cq_L_337.2.2.1) 5000 true cq_L_337.1 alt = true := by
  have e1 : cq_L_337.2.2.2 = al_L_337 := by dsimp only [cq_L_337]
  have e2 : cq_L_337.2.2.1 = mu_L_337 := by dsimp only [cq_L_337]
  have e3 : cq_L_337.1 = 1421 := by dsimp only [cq_L_337]
  rw [e1, e2, e3]
  exact rf_pcs (l := al_L_337) 0 ck_L_c_337 (List.isEmpty_iff.mp ck_L_n_337)
theorem ck_L_d_338 : ∀ alt ∈ cq_L_338.2.2.2, rf_run nm_cl nm_ct en_xs 8 xx_L kc_L cu_L po_L (some .boolean) 1 0 98 16364 (some cq_L_338.2.2.1) 5000 true cq_L_338.1 alt = true := by
  have e1 : cq_L_338.2.2.2 = al_L_338 := by dsimp only [cq_L_338]
  have e2 : cq_L_338.2.2.1 = mu_L_338 := by dsimp only [cq_L_338]
  have e3 : cq_L_338.1 = 1421 := by dsimp only [cq_L_338]
  rw [e1, e2, e3]
  exact rf_pcs (l := al_L_338) 0 ck_L_c_338 (List.isEmpty_iff.mp ck_L_n_338)
theorem ck_L_d_339 : ∀ alt ∈ cq_L_339.2.2.2, rf_run nm_cl nm_ct en_xs 8 xx_L kc_L cu_L po_L (some .boolean) 1 0 98 16364 (some cq_L_339.2.2.1) 5000 true cq_L_339.1 alt = true := by
  have e1 : cq_L_339.2.2.2 = al_L_339 := by dsimp only [cq_L_339]
  have e2 : cq_L_339.2.2.1 = mu_L_339 := by dsimp only [cq_L_339]
  have e3 : cq_L_339.1 = 1421 := by dsimp only [cq_L_339]
  rw [e1, e2, e3]
  exact rf_pcs (l := al_L_339) 1 ck_L_c_339 (List.isEmpty_iff.mp ck_L_n_339)
theorem ck_L_d_340 : ∀ alt ∈ cq_L_340.2.2.2, rf_run nm_cl nm_ct en_xs 8 xx_L kc_L cu_L po_L (some .boolean) 1 0 98 16364 (some cq_L_340.2.2.1) 5000 true cq_L_340.1 alt = true := by
  have e1 : cq_L_340.2.2.2 = al_L_340 := by dsimp only [cq_L_340]
  have e2 : cq_L_340.2.2.1 = mu_L_340 := by dsimp only [cq_L_340]
  have e3 : cq_L_340.1 = 1421 := by dsimp only [cq_L_340]
  rw [e1, e2, e3]
  exact rf_pcs (l := al_L_340) 0 ck_L_c_340 (List.isEmpty_iff.mp ck_L_n_340)
theorem ck_L_d_341 : ∀ alt ∈ cq_L_341.2.2.2, rf_run nm_cl nm_ct en_xs 8 xx_L kc_L cu_L po_L (some .boolean) 1 0 98 16364 (some cq_L_341.2.2.1) 5000 true cq_L_341.1 alt = true := by
  have e1 : cq_L_341.2.2.2 = al_L_341 := by dsimp only [cq_L_341]
  have e2 : cq_L_341.2.2.1 = mu_L_341 := by dsimp only [cq_L_341]
  have e3 : cq_L_341.1 = 1421 := by dsimp only [cq_L_341]
  rw [e1, e2, e3]
  exact rf_pcs (l := al_L_341) 0 ck_L_c_341 (List.isEmpty_iff.mp ck_L_n_341)
theorem ck_L_d_342 : ∀ alt ∈ cq_L_342.2.2.2, rf_run nm_cl nm_ct en_xs 8 xx_L kc_L cu_L po_L (some .boolean) 1 0 98 16364 (some cq_L_342.2.2.1) 5000 true cq_L_342.1 alt = true := by
  have e1 : cq_L_342.2.2.2 = al_L_342 := by dsimp only [cq_L_342]
  have e2 : cq_L_342.2.2.1 = mu_L_342 := by dsimp only [cq_L_342]
  have e3 : cq_L_342.1 = 1421 := by dsimp only [cq_L_342]
  rw [e1, e2, e3]
  exact rf_pcs (l := al_L_342) 0 ck_L_c_342 (List.isEmpty_iff.mp ck_L_n_342)
theorem ck_L_d_343 : ∀ alt ∈ cq_L_343.2.2.2, rf_run nm_cl nm_ct en_xs 8 xx_L kc_L cu_L po_L (some .boolean) 1 0 98 16364 (some cq_L_343.2.2.1) 5000 true cq_L_343.1 alt = true := by
  have e1 : cq_L_343.2.2.2 = al_L_343 := by dsimp only [cq_L_343]
  have e2 : cq_L_343.2.2.1 = mu_L_343 := by dsimp only [cq_L_343]
  have e3 : cq_L_343.1 = 1421 := by dsimp only [cq_L_343]
  rw [e1, e2, e3]
  exact rf_pcs (l := al_L_343) 0 ck_L_c_343 (List.isEmpty_iff.mp ck_L_n_343)
theorem ck_L_d_344 : ∀ alt ∈ cq_L_344.2.2.2, rf_run nm_cl nm_ct en_xs 8 xx_L kc_L cu_L po_L (some .boolean) 1 0 98 16364 (some cq_L_344.2.2.1) 5000 true cq_L_344.1 alt = true := by
  have e1 : cq_L_344.2.2.2 = al_L_344 := by dsimp only [cq_L_344]
  have e2 : cq_L_344.2.2.1 = mu_L_344 := by dsimp only [cq_L_344]
  have e3 : cq_L_344.1 = 1421 := by dsimp only [cq_L_344]
  rw [e1, e2, e3]
  exact rf_pcs (l := al_L_344) 0 ck_L_c_344 (List.isEmpty_iff.mp ck_L_n_344)
theorem ck_L_d_345 : ∀ alt ∈ cq_L_345.2.2.2, rf_run nm_cl nm_ct en_xs 8 xx_L kc_L cu_L po_L (some .boolean) 1 0 98 16364 (some cq_L_345.2.2.1) 5000 true cq_L_345.1 alt = true := by
  have e1 : cq_L_345.2.2.2 = al_L_345 := by dsimp only [cq_L_345]
  have e2 : cq_L_345.2.2.1 = mu_L_345 := by dsimp only [cq_L_345]
  have e3 : cq_L_345.1 = 1421 := by dsimp only [cq_L_345]
  rw [e1, e2, e3]
  exact rf_pcs (l := al_L_345) 0 ck_L_c_345 (List.isEmpty_iff.mp ck_L_n_345)
theorem ck_L_d_346 : ∀ alt ∈ cq_L_346.2.2.2, rf_run nm_cl nm_ct en_xs 8 xx_L kc_L cu_L po_L (some .boolean) 1 0 98 16364 (some cq_L_346.2.2.1) 5000 true cq_L_346.1 alt = true := by
  have e1 : cq_L_346.2.2.2 = al_L_346 := by dsimp only [cq_L_346]
  have e2 : cq_L_346.2.2.1 = mu_L_346 := by dsimp only [cq_L_346]
  have e3 : cq_L_346.1 = 1421 := by dsimp only [cq_L_346]
  rw [e1, e2, e3]
  exact rf_pcs (l := al_L_346) 0 ck_L_c_346 (List.isEmpty_iff.mp ck_L_n_346)
theorem ck_L_d_347 : ∀ alt ∈ cq_L_347.2.2.2, rf_run nm_cl nm_ct en_xs 8 xx_L kc_L cu_L po_L (some .boolean) 1 0 98 16364 (some cq_L_347.2.2.1) 5000 true cq_L_347.1 alt = true := by
  have e1 : cq_L_347.2.2.2 = al_L_347 := by dsimp only [cq_L_347]
  have e2 : cq_L_347.2.2.1 = mu_L_347 := by dsimp only [cq_L_347]
  have e3 : cq_L_347.1 = 1421 := by dsimp only [cq_L_347]
  rw [e1, e2, e3]
  exact rf_pcs (l := al_L_347) 0 ck_L_c_347 (List.isEmpty_iff.mp ck_L_n_347)
theorem ck_L_d_348 : ∀ alt ∈ cq_L_348.2.2.2, rf_run nm_cl nm_ct en_xs 8 xx_L kc_L cu_L po_L (some .boolean) 1 0 98 16364 (some cq_L_348.2.2.1) 5000 true cq_L_348.1 alt = true := by
  have e1 : cq_L_348.2.2.2 = al_L_348 := by dsimp only [cq_L_348]
  have e2 : cq_L_348.2.2.1 = mu_L_348 := by dsimp only [cq_L_348]
  have e3 : cq_L_348.1 = 1421 := by dsimp only [cq_L_348]
  rw [e1, e2, e3]
  exact rf_pcs (l := al_L_348) 0 ck_L_c_348 (List.isEmpty_iff.mp ck_L_n_348)
theorem ck_L_d_349 : ∀ alt ∈ cq_L_349.2.2.2, rf_run nm_cl nm_ct en_xs 8 xx_L kc_L cu_L po_L (some .boolean) 1 0 98 16364 (some cq_L_349.2.2.1) 5000 true cq_L_349.1 alt = true := by
  have e1 : cq_L_349.2.2.2 = al_L_349 := by dsimp only [cq_L_349]
  have e2 : cq_L_349.2.2.1 = mu_L_349 := by dsimp only [cq_L_349]
  have e3 : cq_L_349.1 = 1421 := by dsimp only [cq_L_349]
  rw [e1, e2, e3]
  exact rf_pcs (l := al_L_349) 0 ck_L_c_349 (List.isEmpty_iff.mp ck_L_n_349)
theorem ck_L_d_350 : ∀ alt ∈ cq_L_350.2.2.2, rf_run nm_cl nm_ct en_xs 8 xx_L kc_L cu_L po_L (some .boolean) 1 0 98 16364 (some cq_L_350.2.2.1) 5000 true cq_L_350.1 alt = true := by
  have e1 : cq_L_350.2.2.2 = al_L_350 := by dsimp only [cq_L_350]
  have e2 : cq_L_350.2.2.1 = mu_L_350 := by dsimp only [cq_L_350]
  have e3 : cq_L_350.1 = 1421 := by dsimp only [cq_L_350]
  rw [e1, e2, e3]
  exact rf_pcs (l := al_L_350) 1 ck_L_c_350 (List.isEmpty_iff.mp ck_L_n_350)
theorem ck_L_d_351 : ∀ alt ∈ cq_L_351.2.2.2, rf_run nm_cl nm_ct en_xs 8 xx_L kc_L cu_L po_L (some .boolean) 1 0 98 16364 (some cq_L_351.2.2.1) 5000 true cq_L_351.1 alt = true := by
  have e1 : cq_L_351.2.2.2 = al_L_351 := by dsimp only [cq_L_351]
  have e2 : cq_L_351.2.2.1 = mu_L_351 := by dsimp only [cq_L_351]
  have e3 : cq_L_351.1 = 1421 := by dsimp only [cq_L_351]
  rw [e1, e2, e3]
  exact rf_pcs (l := al_L_351) 0 ck_L_c_351 (List.isEmpty_iff.mp ck_L_n_351)
theorem ck_L_d_352 : ∀ alt ∈ cq_L_352.2.2.2, rf_run nm_cl nm_ct en_xs 8 xx_L kc_L cu_L po_L (some .boolean) 1 0 98 16364 (some cq_L_352.2.2.1) 5000 true cq_L_352.1 alt = true := by
  have e1 : cq_L_352.2.2.2 = al_L_352 := by dsimp only [cq_L_352]
  have e2 : cq_L_352.2.2.1 = mu_L_352 := by dsimp only [cq_L_352]
  have e3 : cq_L_352.1 = 1421 := by dsimp only [cq_L_352]
  rw [e1, e2, e3]
  exact rf_pcs (l := al_L_352) 0 ck_L_c_352 (List.isEmpty_iff.mp ck_L_n_352)
theorem ck_L_d_353 : ∀ alt ∈ cq_L_353.2.2.2, rf_run nm_cl nm_ct en_xs 8 xx_L kc_L cu_L po_L (some .boolean) 1 0 98 16364 (some cq_L_353.2.2.1) 5000 true cq_L_353.1 alt = true := by
  have e1 : cq_L_353.2.2.2 = al_L_353 := by dsimp only [cq_L_353]
  have e2 : cq_L_353.2.2.1 = mu_L_353 := by dsimp only [cq_L_353]
  have e3 : cq_L_353.1 = 1421 := by dsimp only [cq_L_353]
  rw [e1, e2, e3]
  exact rf_pcs (l := al_L_353) 0 ck_L_c_353 (List.isEmpty_iff.mp ck_L_n_353)
theorem ck_L_d_354 : ∀ alt ∈ cq_L_354.2.2.2, rf_run nm_cl nm_ct en_xs 8 xx_L kc_L cu_L po_L (some .boolean) 1 0 98 16364 (some cq_L_354.2.2.1) 5000 true cq_L_354.1 alt = true := by
  have e1 : cq_L_354.2.2.2 = al_L_354 := by dsimp only [cq_L_354]
  have e2 : cq_L_354.2.2.1 = mu_L_354 := by dsimp only [cq_L_354]
  have e3 : cq_L_354.1 = 1421 := by dsimp only [cq_L_354]
  rw [e1, e2, e3]
  exact rf_pcs (l := al_L_354) 0 ck_L_c_354 (List.isEmpty_iff.mp ck_L_n_354)
theorem ck_L_d_355 : ∀ alt ∈ cq_L_355.2.2.2, rf_run nm_cl nm_ct en_xs 8 xx_L kc_L cu_L po_L (some .boolean) 1 0 98 16364 (some cq_L_355.2.2.1) 5000 true cq_L_355.1 alt = true := by
  have e1 : cq_L_355.2.2.2 = al_L_355 := by dsimp only [cq_L_355]
  have e2 : cq_L_355.2.2.1 = mu_L_355 := by dsimp only [cq_L_355]
  have e3 : cq_L_355.1 = 1421 := by dsimp only [cq_L_355]
  rw [e1, e2, e3]
  exact rf_pcs (l := al_L_355) 0 ck_L_c_355 (List.isEmpty_iff.mp ck_L_n_355)
theorem ck_L_d_356 : ∀ alt ∈ cq_L_356.2.2.2, rf_run nm_cl nm_ct en_xs 8 xx_L kc_L cu_L po_L (some .boolean) 1 0 98 16364 (some cq_L_356.2.2.1) 5000 true cq_L_356.1 alt = true := by
  have e1 : cq_L_356.2.2.2 = al_L_356 := by dsimp only [cq_L_356]
  have e2 : cq_L_356.2.2.1 = mu_L_356 := by dsimp only [cq_L_356]
  have e3 : cq_L_356.1 = 1421 := by dsimp only [cq_L_356]
  rw [e1, e2, e3]
  exact rf_pcs (l := al_L_356) 0 ck_L_c_356 (List.isEmpty_iff.mp ck_L_n_356)
theorem ck_L_d_357 : ∀ alt ∈ cq_L_357.2.2.2, rf_run nm_cl nm_ct en_xs 8 xx_L kc_L cu_L po_L (some .boolean) 1 0 98 16364 (some cq_L_357.2.2.1) 5000 true cq_L_357.1 alt = true := by
  have e1 : cq_L_357.2.2.2 = al_L_357 := by dsimp only [cq_L_357]
  have e2 : cq_L_357.2.2.1 = mu_L_357 := by dsimp only [cq_L_357]
  have e3 : cq_L_357.1 = 1421 := by dsimp only [cq_L_357]
  rw [e1, e2, e3]
  exact rf_pcs (l := al_L_357) 0 ck_L_c_357 (List.isEmpty_iff.mp ck_L_n_357)
theorem ck_L_d_358 : ∀ alt ∈ cq_L_358.2.2.2, rf_run nm_cl nm_ct en_xs 8 xx_L kc_L cu_L po_L (some .boolean) 1 0 98 16364 (some cq_L_358.2.2.1) 5000 true cq_L_358.1 alt = true := by
  have e1 : cq_L_358.2.2.2 = al_L_358 := by dsimp only [cq_L_358]
  have e2 : cq_L_358.2.2.1 = mu_L_358 := by dsimp only [cq_L_358]
  have e3 : cq_L_358.1 = 1421 := by dsimp only [cq_L_358]
  rw [e1, e2, e3]
  exact rf_pcs (l := al_L_358) 0 ck_L_c_358 (List.isEmpty_iff.mp ck_L_n_358)
theorem ck_L_d_359 : ∀ alt ∈ cq_L_359.2.2.2, rf_run nm_cl nm_ct en_xs 8 xx_L kc_L cu_L po_L (some .boolean) 1 0 98 16364 (some cq_L_359.2.2.1) 5000 true cq_L_359.1 alt = true := by
  have e1 : cq_L_359.2.2.2 = al_L_359 := by dsimp only [cq_L_359]
  have e2 : cq_L_359.2.2.1 = mu_L_359 := by dsimp only [cq_L_359]
  have e3 : cq_L_359.1 = 1421 := by dsimp only [cq_L_359]
  rw [e1, e2, e3]
  exact rf_pcs (l := al_L_359) 0 ck_L_c_359 (List.isEmpty_iff.mp ck_L_n_359)
theorem ck_L_d_360 : ∀ alt ∈ cq_L_360.2.2.2, rf_run nm_cl nm_ct en_xs 8 xx_L kc_L cu_L po_L (some .boolean) 1 0 98 16364 (some cq_L_360.2.2.1) 5000 true cq_L_360.1 alt = true := by
  have e1 : cq_L_360.2.2.2 = al_L_360 := by dsimp only [cq_L_360]
  have e2 : cq_L_360.2.2.1 = mu_L_360 := by dsimp only [cq_L_360]
  have e3 : cq_L_360.1 = 1421 := by dsimp only [cq_L_360]
  rw [e1, e2, e3]
  exact rf_pcs (l := al_L_360) 0 ck_L_c_360 (List.isEmpty_iff.mp ck_L_n_360)
theorem ck_L_d_361 : ∀ alt ∈ cq_L_361.2.2.2, rf_run nm_cl nm_ct en_xs 8 xx_L kc_L cu_L po_L (some .boolean) 1 0 98 16364 (some cq_L_361.2.2.1) 5000 true cq_L_361.1 alt = true := by
  have e1 : cq_L_361.2.2.2 = al_L_361 := by dsimp only [cq_L_361]
  have e2 : cq_L_361.2.2.1 = mu_L_361 := by dsimp only [cq_L_361]
  have e3 : cq_L_361.1 = 1421 := by dsimp only [cq_L_361]
  rw [e1, e2, e3]
  exact rf_pcs (l := al_L_361) 0 ck_L_c_361 (List.isEmpty_iff.mp ck_L_n_361)
theorem ck_L_d_362 : ∀ alt ∈ cq_L_362.2.2.2, rf_run nm_cl nm_ct en_xs 8 xx_L kc_L cu_L po_L (some .boolean) 1 0 98 16364 (some cq_L_362.2.2.1) 5000 true cq_L_362.1 alt = true := by
  have e1 : cq_L_362.2.2.2 = al_L_362 := by dsimp only [cq_L_362]
  have e2 : cq_L_362.2.2.1 = mu_L_362 := by dsimp only [cq_L_362]
  have e3 : cq_L_362.1 = 1421 := by dsimp only [cq_L_362]
  rw [e1, e2, e3]
  exact rf_pcs (l := al_L_362) 0 ck_L_c_362 (List.isEmpty_iff.mp ck_L_n_362)
theorem ck_L_d_363 : ∀ alt ∈ cq_L_363.2.2.2, rf_run nm_cl nm_ct en_xs 8 xx_L kc_L cu_L po_L (some .boolean) 1 0 98 16364 (some cq_L_363.2.2.1) 5000 true cq_L_363.1 alt = true := by
  have e1 : cq_L_363.2.2.2 = al_L_363 := by dsimp only [cq_L_363]
  have e2 : cq_L_363.2.2.1 = mu_L_363 := by dsimp only [cq_L_363]
  have e3 : cq_L_363.1 = 1421 := by dsimp only [cq_L_363]
  rw [e1, e2, e3]
  exact rf_pcs (l := al_L_363) 0 ck_L_c_363 (List.isEmpty_iff.mp ck_L_n_363)
theorem ck_L_d_364 : ∀ alt ∈ cq_L_364.2.2.2, rf_run nm_cl nm_ct en_xs 8 xx_L kc_L cu_L po_L (some .boolean) 1 0 98 16364 (some cq_L_364.2.2.1) 5000 true cq_L_364.1 alt = true := by
  have e1 : cq_L_364.2.2.2 = al_L_364 := by dsimp only [cq_L_364]
  have e2 : cq_L_364.2.2.1 = mu_L_364 := by dsimp only [cq_L_364]
  have e3 : cq_L_364.1 = 1421 := by dsimp only [cq_L_364]
  rw [e1, e2, e3]
  exact rf_pcs (l := al_L_364) 0 ck_L_c_364 (List.isEmpty_iff.mp ck_L_n_364)
theorem ck_L_d_365 : ∀ alt ∈ cq_L_365.2.2.2, rf_run nm_cl nm_ct en_xs 8 xx_L kc_L cu_L po_L (some .boolean) 1 0 98 16364 (some cq_L_365.2.2.1) 5000 true cq_L_365.1 alt = true := by
  have e1 : cq_L_365.2.2.2 = al_L_365 := by dsimp only [cq_L_365]
  have e2 : cq_L_365.2.2.1 = mu_L_365 := by dsimp only [cq_L_365]
  have e3 : cq_L_365.1 = 1421 := by dsimp only [cq_L_365]
  rw [e1, e2, e3]
  exact rf_pcs (l := al_L_365) 0 ck_L_c_365 (List.isEmpty_iff.mp ck_L_n_365)
theorem ck_L_d_366 : ∀ alt ∈ cq_L_366.2.2.2, rf_run nm_cl nm_ct en_xs 8 xx_L kc_L cu_L po_L (some .boolean) 1 0 98 16364 (some cq_L_366.2.2.1) 5000 true cq_L_366.1 alt = true := by
  have e1 : cq_L_366.2.2.2 = al_L_366 := by dsimp only [cq_L_366]
  have e2 : cq_L_366.2.2.1 = mu_L_366 := by dsimp only [cq_L_366]
  have e3 : cq_L_366.1 = 1421 := by dsimp only [cq_L_366]
  rw [e1, e2, e3]
  exact rf_pcs (l := al_L_366) 0 ck_L_c_366 (List.isEmpty_iff.mp ck_L_n_366)
theorem ck_L_d_367 : ∀ alt ∈ cq_L_367.2.2.2, rf_run nm_cl nm_ct en_xs 8 xx_L kc_L cu_L po_L (some .boolean) 1 0 98 16364 (some cq_L_367.2.2.1) 5000 true cq_L_367.1 alt = true := by
  have e1 : cq_L_367.2.2.2 = al_L_367 := by dsimp only [cq_L_367]
  have e2 : cq_L_367.2.2.1 = mu_L_367 := by dsimp only [cq_L_367]
  have e3 : cq_L_367.1 = 1421 := by dsimp only [cq_L_367]
  rw [e1, e2, e3]
  exact rf_pcs (l := al_L_367) 0 ck_L_c_367 (List.isEmpty_iff.mp ck_L_n_367)
theorem ck_L_d_368 : ∀ alt ∈ cq_L_368.2.2.2, rf_run nm_cl nm_ct en_xs 8 xx_L kc_L cu_L po_L (some .boolean) 1 0 98 16364 (some cq_L_368.2.2.1) 5000 true cq_L_368.1 alt = true := by
  have e1 : cq_L_368.2.2.2 = al_L_368 := by dsimp only [cq_L_368]
  have e2 : cq_L_368.2.2.1 = mu_L_368 := by dsimp only [cq_L_368]
  have e3 : cq_L_368.1 = 1421 := by dsimp only [cq_L_368]
  rw [e1, e2, e3]
  exact rf_pcs (l := al_L_368) 1 ck_L_c_368 (List.isEmpty_iff.mp ck_L_n_368)
theorem ck_L_d_369 : ∀ alt ∈ cq_L_369.2.2.2, rf_run nm_cl nm_ct en_xs 8 xx_L kc_L cu_L po_L (some .boolean) 1 0 98 16364 (some cq_L_369.2.2.1) 5000 true cq_L_369.1 alt = true := by
  have e1 : cq_L_369.2.2.2 = al_L_369 := by dsimp only [cq_L_369]
  have e2 : cq_L_369.2.2.1 = mu_L_369 := by dsimp only [cq_L_369]
  have e3 : cq_L_369.1 = 1421 := by dsimp only [cq_L_369]
  rw [e1, e2, e3]
  exact rf_pcs (l := al_L_369) 0 ck_L_c_369 (List.isEmpty_iff.mp ck_L_n_369)
theorem ck_L_d_370 : ∀ alt ∈ cq_L_370.2.2.2, rf_run nm_cl nm_ct en_xs 8 xx_L kc_L cu_L po_L (some .boolean) 1 0 98 16364 (some cq_L_370.2.2.1) 5000 true cq_L_370.1 alt = true := by
  have e1 : cq_L_370.2.2.2 = al_L_370 := by dsimp only [cq_L_370]
  have e2 : cq_L_370.2.2.1 = mu_L_370 := by dsimp only [cq_L_370]
  have e3 : cq_L_370.1 = 1421 := by dsimp only [cq_L_370]
  rw [e1, e2, e3]
  exact rf_pcs (l := al_L_370) 0 ck_L_c_370 (List.isEmpty_iff.mp ck_L_n_370)
theorem ck_L_d_371 : ∀ alt ∈ cq_L_371.2.2.2, rf_run nm_cl nm_ct en_xs 8 xx_L kc_L cu_L po_L (some .boolean) 1 0 98 16364 (some cq_L_371.2.2.1) 5000 true cq_L_371.1 alt = true := by
  have e1 : cq_L_371.2.2.2 = al_L_371 := by dsimp only [cq_L_371]
  have e2 : cq_L_371.2.2.1 = mu_L_371 := by dsimp only [cq_L_371]
  have e3 : cq_L_371.1 = 1421 := by dsimp only [cq_L_371]
  rw [e1, e2, e3]
  exact rf_pcs (l := al_L_371) 0 ck_L_c_371 (List.isEmpty_iff.mp ck_L_n_371)
theorem ck_L_d_372 : ∀ alt ∈ cq_L_372.2.2.2, rf_run nm_cl nm_ct en_xs 8 xx_L kc_L cu_L po_L (some .boolean) 1 0 98 16364 (some cq_L_372.2.2.1) 5000 true cq_L_372.1 alt = true := by
  have e1 : cq_L_372.2.2.2 = al_L_372 := by dsimp only [cq_L_372]
  have e2 : cq_L_372.2.2.1 = mu_L_372 := by dsimp only [cq_L_372]
  have e3 : cq_L_372.1 = 1421 := by dsimp only [cq_L_372]
  rw [e1, e2, e3]
  exact rf_pcs (l := al_L_372) 0 ck_L_c_372 (List.isEmpty_iff.mp ck_L_n_372)
theorem ck_L_d_373 : ∀ alt ∈ cq_L_373.2.2.2, rf_run nm_cl nm_ct en_xs 8 xx_L kc_L cu_L po_L (some .boolean) 1 0 98 16364 (some cq_L_373.2.2.1) 5000 true cq_L_373.1 alt = true := by
  have e1 : cq_L_373.2.2.2 = al_L_373 := by dsimp only [cq_L_373]
  have e2 : cq_L_373.2.2.1 = mu_L_373 := by dsimp only [cq_L_373]
  have e3 : cq_L_373.1 = 1421 := by dsimp only [cq_L_373]
  rw [e1, e2, e3]
  exact rf_pcs (l := al_L_373) 0 ck_L_c_373 (List.isEmpty_iff.mp ck_L_n_373)
theorem ck_L_d_374 : ∀ alt ∈ cq_L_374.2.2.2, rf_run nm_cl nm_ct en_xs 8 xx_L kc_L cu_L po_L (some .boolean) 1 0 98 16364 (some cq_L_374.2.2.1) 5000 true cq_L_374.1 alt = true := by
  have e1 : cq_L_374.2.2.2 = al_L_374 := by dsimp only [cq_L_374]
  have e2 : cq_L_374.2.2.1 = mu_L_374 := by dsimp only [cq_L_374]
  have e3 : cq_L_374.1 = 1421 := by dsimp only [cq_L_374]
  rw [e1, e2, e3]
  exact rf_pcs (l := al_L_374) 0 ck_L_c_374 (List.isEmpty_iff.mp ck_L_n_374)
theorem ck_L_d_375 : ∀ alt ∈ cq_L_375.2.2.2, rf_run nm_cl nm_ct en_xs 8 xx_L kc_L cu_L po_L (some .boolean) 1 0 98 16364 (some cq_L_375.2.2.1) 5000 true cq_L_375.1 alt = true := by
  have e1 : cq_L_375.2.2.2 = al_L_375 := by dsimp only [cq_L_375]
  have e2 : cq_L_375.2.2.1 = mu_L_375 := by dsimp only [cq_L_375]
  have e3 : cq_L_375.1 = 1421 := by dsimp only [cq_L_375]
  rw [e1, e2, e3]
  exact rf_pcs (l := al_L_375) 0 ck_L_c_375 (List.isEmpty_iff.mp ck_L_n_375)
theorem ck_L_d_376 : ∀ alt ∈ cq_L_376.2.2.2, rf_run nm_cl nm_ct en_xs 8 xx_L kc_L cu_L po_L (some .boolean) 1 0 98 16364 (some cq_L_376.2.2.1) 5000 true cq_L_376.1 alt = true := by
  have e1 : cq_L_376.2.2.2 = al_L_376 := by dsimp only [cq_L_376]
  have e2 : cq_L_376.2.2.1 = mu_L_376 := by dsimp only [cq_L_376]
  have e3 : cq_L_376.1 = 1421 := by dsimp only [cq_L_376]
  rw [e1, e2, e3]
  exact rf_pcs (l := al_L_376) 0 ck_L_c_376 (List.isEmpty_iff.mp ck_L_n_376)
theorem ck_L_d_377 : ∀ alt ∈ cq_L_377.2.2.2, rf_run nm_cl nm_ct en_xs 8 xx_L kc_L cu_L po_L (some .boolean) 1 0 98 16364 (some cq_L_377.2.2.1) 5000 true cq_L_377.1 alt = true := by
  have e1 : cq_L_377.2.2.2 = al_L_377 := by dsimp only [cq_L_377]
  have e2 : cq_L_377.2.2.1 = mu_L_377 := by dsimp only [cq_L_377]
  have e3 : cq_L_377.1 = 1421 := by dsimp only [cq_L_377]
  rw [e1, e2, e3]
  exact rf_pcs (l := al_L_377) 0 ck_L_c_377 (List.isEmpty_iff.mp ck_L_n_377)
theorem ck_L_d_378 : ∀ alt ∈ cq_L_378.2.2.2, rf_run nm_cl nm_ct en_xs 8 xx_L kc_L cu_L po_L (some .boolean) 1 0 98 16364 (some cq_L_378.2.2.1) 5000 true cq_L_378.1 alt = true := by
  have e1 : cq_L_378.2.2.2 = al_L_378 := by dsimp only [cq_L_378]
  have e2 : cq_L_378.2.2.1 = mu_L_378 := by dsimp only [cq_L_378]
  have e3 : cq_L_378.1 = 1421 := by dsimp only [cq_L_378]
  rw [e1, e2, e3]
  exact rf_pcs (l := al_L_378) 0 ck_L_c_378 (List.isEmpty_iff.mp ck_L_n_378)
theorem ck_L_d_379 : ∀ alt ∈ cq_L_379.2.2.2, rf_run nm_cl nm_ct en_xs 8 xx_L kc_L cu_L po_L (some .boolean) 1 0 98 16364 (some cq_L_379.2.2.1) 5000 true cq_L_379.1 alt = true := by
  have e1 : cq_L_379.2.2.2 = al_L_379 := by dsimp only [cq_L_379]
  have e2 : cq_L_379.2.2.1 = mu_L_379 := by dsimp only [cq_L_379]
  have e3 : cq_L_379.1 = 1421 := by dsimp only [cq_L_379]
  rw [e1, e2, e3]
  exact rf_pcs (l := al_L_379) 0 ck_L_c_379 (List.isEmpty_iff.mp ck_L_n_379)
theorem ck_L_d_380 : ∀ alt ∈ cq_L_380.2.2.2, rf_run nm_cl nm_ct en_xs 8 xx_L kc_L cu_L po_L (some .boolean) 1 0 98 16364 (some cq_L_380.2.2.1) 5000 true cq_L_380.1 alt = true := by
  have e1 : cq_L_380.2.2.2 = al_L_380 := by dsimp only [cq_L_380]
  have e2 : cq_L_380.2.2.1 = mu_L_380 := by dsimp only [cq_L_380]
  have e3 : cq_L_380.1 = 1421 := by dsimp only [cq_L_380]
  rw [e1, e2, e3]
  exact rf_pcs (l := al_L_380) 0 ck_L_c_380 (List.isEmpty_iff.mp ck_L_n_380)
theorem ck_L_d_381 : ∀ alt ∈ cq_L_381.2.2.2, rf_run nm_cl nm_ct en_xs 8 xx_L kc_L cu_L po_L (some .boolean) 1 0 98 16364 (some cq_L_381.2.2.1) 5000 true cq_L_381.1 alt = true := by
  have e1 : cq_L_381.2.2.2 = al_L_381 := by dsimp only [cq_L_381]
  have e2 : cq_L_381.2.2.1 = mu_L_381 := by dsimp only [cq_L_381]
  have e3 : cq_L_381.1 = 1421 := by dsimp only [cq_L_381]
  rw [e1, e2, e3]
  exact rf_pcs (l := al_L_381) 0 ck_L_c_381 (List.isEmpty_iff.mp ck_L_n_381)
theorem ck_L_d_382 : ∀ alt ∈ cq_L_382.2.2.2, rf_run nm_cl nm_ct en_xs 8 xx_L kc_L cu_L po_L (some .boolean) 1 0 98 16364 (some cq_L_382.2.2.1) 5000 true cq_L_382.1 alt = true := by
  have e1 : cq_L_382.2.2.2 = al_L_382 := by dsimp only [cq_L_382]
  have e2 : cq_L_382.2.2.1 = mu_L_382 := by dsimp only [cq_L_382]
  have e3 : cq_L_382.1 = 1421 := by dsimp only [cq_L_382]
  rw [e1, e2, e3]
  exact rf_pcs (l := al_L_382) 0 ck_L_c_382 (List.isEmpty_iff.mp ck_L_n_382)
theorem ck_L_d_383 : ∀ alt ∈ cq_L_383.2.2.2, rf_run nm_cl nm_ct en_xs 8 xx_L kc_L cu_L po_L (some .boolean) 1 0 98 16364 (some cq_L_383.2.2.1) 5000 true cq_L_383.1 alt = true := by
  have e1 : cq_L_383.2.2.2 = al_L_383 := by dsimp only [cq_L_383]
  have e2 : cq_L_383.2.2.1 = mu_L_383 := by dsimp only [cq_L_383]
  have e3 : cq_L_383.1 = 1421 := by dsimp only [cq_L_383]
  rw [e1, e2, e3]
  exact rf_pcs (l := al_L_383) 0 ck_L_c_383 (List.isEmpty_iff.mp ck_L_n_383)
theorem ck_L_d_384 : ∀ alt ∈ cq_L_384.2.2.2, rf_run nm_cl nm_ct en_xs 8 xx_L kc_L cu_L po_L (some .boolean) 1 0 98 16364 (some cq_L_384.2.2.1) 5000 true cq_L_384.1 alt = true := by
  have e1 : cq_L_384.2.2.2 = al_L_384 := by dsimp only [cq_L_384]
  have e2 : cq_L_384.2.2.1 = mu_L_384 := by dsimp only [cq_L_384]
  have e3 : cq_L_384.1 = 1421 := by dsimp only [cq_L_384]
  rw [e1, e2, e3]
  exact rf_pcs (l := al_L_384) 0 ck_L_c_384 (List.isEmpty_iff.mp ck_L_n_384)
theorem ck_L_d_385 : ∀ alt ∈ cq_L_385.2.2.2, rf_run nm_cl nm_ct en_xs 8 xx_L kc_L cu_L po_L (some .boolean) 1 0 98 16364 (some cq_L_385.2.2.1) 5000 true cq_L_385.1 alt = true := by
  have e1 : cq_L_385.2.2.2 = al_L_385 := by dsimp only [cq_L_385]
  have e2 : cq_L_385.2.2.1 = mu_L_385 := by dsimp only [cq_L_385]
  have e3 : cq_L_385.1 = 1421 := by dsimp only [cq_L_385]
  rw [e1, e2, e3]
  exact rf_pcs (l := al_L_385) 0 ck_L_c_385 (List.isEmpty_iff.mp ck_L_n_385)
theorem ck_L_d_386 : ∀ alt ∈ cq_L_386.2.2.2, rf_run nm_cl nm_ct en_xs 8 xx_L kc_L cu_L po_L (some .boolean) 1 0 98 16364 (some cq_L_386.2.2.1) 5000 true cq_L_386.1 alt = true := by
  have e1 : cq_L_386.2.2.2 = al_L_386 := by dsimp only [cq_L_386]
  have e2 : cq_L_386.2.2.1 = mu_L_386 := by dsimp only [cq_L_386]
  have e3 : cq_L_386.1 = 1421 := by dsimp only [cq_L_386]
  rw [e1, e2, e3]
  exact rf_pcs (l := al_L_386) 0 ck_L_c_386 (List.isEmpty_iff.mp ck_L_n_386)
theorem ck_L_d_387 : ∀ alt ∈ cq_L_387.2.2.2, rf_run nm_cl nm_ct en_xs 8 xx_L kc_L cu_L po_L (some .boolean) 1 0 98 16364 (some cq_L_387.2.2.1) 5000 true cq_L_387.1 alt = true := by
  have e1 : cq_L_387.2.2.2 = al_L_387 := by dsimp only [cq_L_387]
  have e2 : cq_L_387.2.2.1 = mu_L_387 := by dsimp only [cq_L_387]
  have e3 : cq_L_387.1 = 1421 := by dsimp only [cq_L_387]
  rw [e1, e2, e3]
  exact rf_pcs (l := al_L_387) 0 ck_L_c_387 (List.isEmpty_iff.mp ck_L_n_387)
theorem ck_L_d_388 : ∀ alt ∈ cq_L_388.2.2.2, rf_run nm_cl nm_ct en_xs 8 xx_L kc_L cu_L po_L (some .boolean) 1 0 98 16364 (some cq_L_388.2.2.1) 5000 true cq_L_388.1 alt = true := by
  have e1 : cq_L_388.2.2.2 = al_L_388 := by dsimp only [cq_L_388]
  have e2 : cq_L_388.2.2.1 = mu_L_388 := by dsimp only [cq_L_388]
  have e3 : cq_L_388.1 = 1421 := by dsimp only [cq_L_388]
  rw [e1, e2, e3]
  exact rf_pcs (l := al_L_388) 0 ck_L_c_388 (List.isEmpty_iff.mp ck_L_n_388)
theorem ck_L_d_389 : ∀ alt ∈ cq_L_389.2.2.2, rf_run nm_cl nm_ct en_xs 8 xx_L kc_L cu_L po_L (some .boolean) 1 0 98 16364 (some cq_L_389.2.2.1) 5000 true cq_L_389.1 alt = true := by
  have e1 : cq_L_389.2.2.2 = al_L_389 := by dsimp only [cq_L_389]
  have e2 : cq_L_389.2.2.1 = mu_L_389 := by dsimp only [cq_L_389]
  have e3 : cq_L_389.1 = 1421 := by dsimp only [cq_L_389]
  rw [e1, e2, e3]
  exact rf_pcs (l := al_L_389) 0 ck_L_c_389 (List.isEmpty_iff.mp ck_L_n_389)
theorem ck_L_d_390 : ∀ alt ∈ cq_L_390.2.2.2, rf_run nm_cl nm_ct en_xs 8 xx_L kc_L cu_L po_L (some .boolean) 1 0 98 16364 (some cq_L_390.2.2.1) 5000 true cq_L_390.1 alt = true := by
  have e1 : cq_L_390.2.2.2 = al_L_390 := by dsimp only [cq_L_390]
  have e2 : cq_L_390.2.2.1 = mu_L_390 := by dsimp only [cq_L_390]
  have e3 : cq_L_390.1 = 1421 := by dsimp only [cq_L_390]
  rw [e1, e2, e3]
  exact rf_pcs (l := al_L_390) 0 ck_L_c_390 (List.isEmpty_iff.mp ck_L_n_390)
theorem ck_L_d_391 : ∀ alt ∈ cq_L_391.2.2.2, rf_run nm_cl nm_ct en_xs 8 xx_L kc_L cu_L po_L (some .boolean) 1 0 98 16364 (some cq_L_391.2.2.1) 5000 true cq_L_391.1 alt = true := by
  have e1 : cq_L_391.2.2.2 = al_L_391 := by dsimp only [cq_L_391]
  have e2 : cq_L_391.2.2.1 = mu_L_391 := by dsimp only [cq_L_391]
  have e3 : cq_L_391.1 = 1421 := by dsimp only [cq_L_391]
  rw [e1, e2, e3]
  exact rf_pcs (l := al_L_391) 0 ck_L_c_391 (List.isEmpty_iff.mp ck_L_n_391)
theorem ck_L_d_392 : ∀ alt ∈ cq_L_392.2.2.2, rf_run nm_cl nm_ct en_xs 8 xx_L kc_L cu_L po_L (some .boolean) 1 0 98 16364 (some cq_L_392.2.2.1) 5000 true cq_L_392.1 alt = true := by
  have e1 : cq_L_392.2.2.2 = al_L_392 := by dsimp only [cq_L_392]
  have e2 : cq_L_392.2.2.1 = mu_L_392 := by dsimp only [cq_L_392]
  have e3 : cq_L_392.1 = 1421 := by dsimp only [cq_L_392]
  rw [e1, e2, e3]
  exact rf_pcs (l := al_L_392) 0 ck_L_c_392 (List.isEmpty_iff.mp ck_L_n_392)
theorem ck_L_d_393 : ∀ alt ∈ cq_L_393.2.2.2, rf_run nm_cl nm_ct en_xs 8 xx_L kc_L cu_L po_L (some .boolean) 1 0 98 16364 (some cq_L_393.2.2.1) 5000 true cq_L_393.1 alt = true := by
  have e1 : cq_L_393.2.2.2 = al_L_393 := by dsimp only [cq_L_393]
  have e2 : cq_L_393.2.2.1 = mu_L_393 := by dsimp only [cq_L_393]
  have e3 : cq_L_393.1 = 1421 := by dsimp only [cq_L_393]
  rw [e1, e2, e3]
  exact rf_pcs (l := al_L_393) 0 ck_L_c_393 (List.isEmpty_iff.mp ck_L_n_393)
theorem ck_L_d_394 : ∀ alt ∈ cq_L_394.2.2.2, rf_run nm_cl nm_ct en_xs 8 xx_L kc_L cu_L po_L (some .boolean) 1 0 98 16364 (some cq_L_394.2.2.1) 5000 true cq_L_394.1 alt = true := by
  have e1 : cq_L_394.2.2.2 = al_L_394 := by dsimp only [cq_L_394]
  have e2 : cq_L_394.2.2.1 = mu_L_394 := by dsimp only [cq_L_394]
  have e3 : cq_L_394.1 = 1421 := by dsimp only [cq_L_394]
  rw [e1, e2, e3]
  exact rf_pcs (l := al_L_394) 0 ck_L_c_394 (List.isEmpty_iff.mp ck_L_n_394)
theorem ck_L_d_395 : ∀ alt ∈ cq_L_395.2.2.2, rf_run nm_cl nm_ct en_xs 8 xx_L kc_L cu_L po_L (some .boolean) 1 0 98 16364 (some cq_L_395.2.2.1) 5000 true cq_L_395.1 alt = true := by
  have e1 : cq_L_395.2.2.2 = al_L_395 := by dsimp only [cq_L_395]
  have e2 : cq_L_395.2.2.1 = mu_L_395 := by dsimp only [cq_L_395]
  have e3 : cq_L_395.1 = 1421 := by dsimp only [cq_L_395]
  rw [e1, e2, e3]
  exact rf_pcs (l := al_L_395) 0 ck_L_c_395 (List.isEmpty_iff.mp ck_L_n_395)
theorem ck_L_d_396 : ∀ alt ∈ cq_L_396.2.2.2, rf_run nm_cl nm_ct en_xs 8 xx_L kc_L cu_L po_L (some .boolean) 1 0 98 16364 (some cq_L_396.2.2.1) 5000 true cq_L_396.1 alt = true := by
  have e1 : cq_L_396.2.2.2 = al_L_396 := by dsimp only [cq_L_396]
  have e2 : cq_L_396.2.2.1 = mu_L_396 := by dsimp only [cq_L_396]
  have e3 : cq_L_396.1 = 1421 := by dsimp only [cq_L_396]
  rw [e1, e2, e3]
  exact rf_pcs (l := al_L_396) 0 ck_L_c_396 (List.isEmpty_iff.mp ck_L_n_396)
theorem ck_L_d_397 : ∀ alt ∈ cq_L_397.2.2.2, rf_run nm_cl nm_ct en_xs 8 xx_L kc_L cu_L po_L (some .boolean) 1 0 98 16364 (some cq_L_397.2.2.1) 5000 true cq_L_397.1 alt = true := by
  have e1 : cq_L_397.2.2.2 = al_L_397 := by dsimp only [cq_L_397]
  have e2 : cq_L_397.2.2.1 = mu_L_397 := by dsimp only [cq_L_397]
  have e3 : cq_L_397.1 = 1421 := by dsimp only [cq_L_397]
  rw [e1, e2, e3]
  exact rf_pcs (l := al_L_397) 0 ck_L_c_397 (List.isEmpty_iff.mp ck_L_n_397)
theorem ck_L_d_398 : ∀ alt ∈ cq_L_398.2.2.2, rf_run nm_cl nm_ct en_xs 8 xx_L kc_L cu_L po_L (some .boolean) 1 0 98 16364 (some cq_L_398.2.2.1) 5000 true cq_L_398.1 alt = true := by
  have e1 : cq_L_398.2.2.2 = al_L_398 := by dsimp only [cq_L_398]
  have e2 : cq_L_398.2.2.1 = mu_L_398 := by dsimp only [cq_L_398]
  have e3 : cq_L_398.1 = 1421 := by dsimp only [cq_L_398]
  rw [e1, e2, e3]
  exact rf_pcs (l := al_L_398) 0 ck_L_c_398 (List.isEmpty_iff.mp ck_L_n_398)
theorem ck_L_d_399 : ∀ alt ∈ cq_L_399.2.2.2, rf_run nm_cl nm_ct en_xs 8 xx_L kc_L cu_L po_L (some .boolean) 1 0 98 16364 (some cq_L_399.2.2.1) 5000 true cq_L_399.1 alt = true := by
  have e1 : cq_L_399.2.2.2 = al_L_399 := by dsimp only [cq_L_399]
  have e2 : cq_L_399.2.2.1 = mu_L_399 := by dsimp only [cq_L_399]
  have e3 : cq_L_399.1 = 1421 := by dsimp only [cq_L_399]
  rw [e1, e2, e3]
  exact rf_pcs (l := al_L_399) 0 ck_L_c_399 (List.isEmpty_iff.mp ck_L_n_399)
theorem ck_L_d_400 : ∀ alt ∈ cq_L_400.2.2.2, rf_run nm_cl nm_ct en_xs 8 xx_L kc_L cu_L po_L (some .boolean) 1 0 98 16364 (some cq_L_400.2.2.1) 5000 true cq_L_400.1 alt = true := by
  have e1 : cq_L_400.2.2.2 = al_L_400 := by dsimp only [cq_L_400]
  have e2 : cq_L_400.2.2.1 = mu_L_400 := by dsimp only [cq_L_400]
  have e3 : cq_L_400.1 = 1421 := by dsimp only [cq_L_400]
  rw [e1, e2, e3]
  exact rf_pcs (l := al_L_400) 0 ck_L_c_400 (List.isEmpty_iff.mp ck_L_n_400)
theorem ck_L_d_401 : ∀ alt ∈ cq_L_401.2.2.2, rf_run nm_cl nm_ct en_xs 8 xx_L kc_L cu_L po_L (some .boolean) 1 0 98 16364 (some cq_L_401.2.2.1) 5000 true cq_L_401.1 alt = true := by
  have e1 : cq_L_401.2.2.2 = al_L_401 := by dsimp only [cq_L_401]
  have e2 : cq_L_401.2.2.1 = mu_L_401 := by dsimp only [cq_L_401]
  have e3 : cq_L_401.1 = 1421 := by dsimp only [cq_L_401]
  rw [e1, e2, e3]
  exact rf_pcs (l := al_L_401) 0 ck_L_c_401 (List.isEmpty_iff.mp ck_L_n_401)
theorem ck_L_d_402 : ∀ alt ∈ cq_L_402.2.2.2, rf_run nm_cl nm_ct en_xs 8 xx_L kc_L cu_L po_L (some .boolean) 1 0 98 16364 (some cq_L_402.2.2.1) 5000 true cq_L_402.1 alt = true := by
  have e1 : cq_L_402.2.2.2 = al_L_402 := by dsimp only [cq_L_402]
  have e2 : cq_L_402.2.2.1 = mu_L_402 := by dsimp only [cq_L_402]
  have e3 : cq_L_402.1 = 1421 := by dsimp only [cq_L_402]
  rw [e1, e2, e3]
  exact rf_pcs (l := al_L_402) 0 ck_L_c_402 (List.isEmpty_iff.mp ck_L_n_402)
theorem ck_L_d_403 : ∀ alt ∈ cq_L_403.2.2.2, rf_run nm_cl nm_ct en_xs 8 xx_L kc_L cu_L po_L (some .boolean) 1 0 98 16364 (some cq_L_403.2.2.1) 5000 true cq_L_403.1 alt = true := by
  have e1 : cq_L_403.2.2.2 = al_L_403 := by dsimp only [cq_L_403]
  have e2 : cq_L_403.2.2.1 = mu_L_403 := by dsimp only [cq_L_403]
  have e3 : cq_L_403.1 = 1421 := by dsimp only [cq_L_403]
  rw [e1, e2, e3]
  exact rf_pcs (l := al_L_403) 0 ck_L_c_403 (List.isEmpty_iff.mp ck_L_n_403)
theorem ck_L_d_404 : ∀ alt ∈ cq_L_404.2.2.2, rf_run nm_cl nm_ct en_xs 8 xx_L kc_L cu_L po_L (some .boolean) 1 0 98 16364 (some cq_L_404.2.2.1) 5000 true cq_L_404.1 alt = true := by
  have e1 : cq_L_404.2.2.2 = al_L_404 := by dsimp only [cq_L_404]
  have e2 : cq_L_404.2.2.1 = mu_L_404 := by dsimp only [cq_L_404]
  have e3 : cq_L_404.1 = 1421 := by dsimp only [cq_L_404]
  rw [e1, e2, e3]
  exact rf_pcs (l := al_L_404) 0 ck_L_c_404 (List.isEmpty_iff.mp ck_L_n_404)
theorem ck_L_d_405 : ∀ alt ∈ cq_L_405.2.2.2, rf_run nm_cl nm_ct en_xs 8 xx_L kc_L cu_L po_L (some .boolean) 1 0 98 16364 (some cq_L_405.2.2.1) 5000 true cq_L_405.1 alt = true := by
  have e1 : cq_L_405.2.2.2 = al_L_405 := by dsimp only [cq_L_405]
  have e2 : cq_L_405.2.2.1 = mu_L_405 := by dsimp only [cq_L_405]
  have e3 : cq_L_405.1 = 1421 := by dsimp only [cq_L_405]
  rw [e1, e2, e3]
  exact rf_pcs (l := al_L_405) 0 ck_L_c_405 (List.isEmpty_iff.mp ck_L_n_405)
theorem ck_L_d_406 : ∀ alt ∈ cq_L_406.2.2.2, rf_run nm_cl nm_ct en_xs 8 xx_L kc_L cu_L po_L (some .boolean) 1 0 98 16364 (some cq_L_406.2.2.1) 5000 true cq_L_406.1 alt = true := by
  have e1 : cq_L_406.2.2.2 = al_L_406 := by dsimp only [cq_L_406]
  have e2 : cq_L_406.2.2.1 = mu_L_406 := by dsimp only [cq_L_406]
  have e3 : cq_L_406.1 = 1421 := by dsimp only [cq_L_406]
  rw [e1, e2, e3]
  exact rf_pcs (l := al_L_406) 0 ck_L_c_406 (List.isEmpty_iff.mp ck_L_n_406)
theorem ck_L_d_407 : ∀ alt ∈ cq_L_407.2.2.2, rf_run nm_cl nm_ct en_xs 8 xx_L kc_L cu_L po_L (some .boolean) 1 0 98 16364 (some cq_L_407.2.2.1) 5000 true cq_L_407.1 alt = true := by
  have e1 : cq_L_407.2.2.2 = al_L_407 := by dsimp only [cq_L_407]
  have e2 : cq_L_407.2.2.1 = mu_L_407 := by dsimp only [cq_L_407]
  have e3 : cq_L_407.1 = 1421 := by dsimp only [cq_L_407]
  rw [e1, e2, e3]
  exact rf_pcs (l := al_L_407) 0 ck_L_c_407 (List.isEmpty_iff.mp ck_L_n_407)
theorem ck_L_d_408 : ∀ alt ∈ cq_L_408.2.2.2, rf_run nm_cl nm_ct en_xs 8 xx_L kc_L cu_L po_L (some .boolean) 1 0 98 16364 (some cq_L_408.2.2.1) 5000 true cq_L_408.1 alt = true := by
  have e1 : cq_L_408.2.2.2 = al_L_408 := by dsimp only [cq_L_408]
  have e2 : cq_L_408.2.2.1 = mu_L_408 := by dsimp only [cq_L_408]
  have e3 : cq_L_408.1 = 1421 := by dsimp only [cq_L_408]
  rw [e1, e2, e3]
  exact rf_pcs (l := al_L_408) 1 ck_L_c_408 (List.isEmpty_iff.mp ck_L_n_408)
theorem ck_L_d_409 : ∀ alt ∈ cq_L_409.2.2.2, rf_run nm_cl nm_ct en_xs 8 xx_L kc_L cu_L po_L (some .boolean) 1 0 98 16364 (some cq_L_409.2.2.1) 5000 true cq_L_409.1 alt = true := by
  have e1 : cq_L_409.2.2.2 = al_L_409 := by dsimp only [cq_L_409]
  have e2 : cq_L_409.2.2.1 = mu_L_409 := by dsimp only [cq_L_409]
  have e3 : cq_L_409.1 = 1421 := by dsimp only [cq_L_409]
  rw [e1, e2, e3]
  exact rf_pcs (l := al_L_409) 0 ck_L_c_409 (List.isEmpty_iff.mp ck_L_n_409)
theorem ck_L_d_410 : ∀ alt ∈ cq_L_410.2.2.2, rf_run nm_cl nm_ct en_xs 8 xx_L kc_L cu_L po_L (some .boolean) 1 0 98 16364 (some cq_L_410.2.2.1) 5000 true cq_L_410.1 alt = true := by
  have e1 : cq_L_410.2.2.2 = al_L_410 := by dsimp only [cq_L_410]
  have e2 : cq_L_410.2.2.1 = mu_L_410 := by dsimp only [cq_L_410]
  have e3 : cq_L_410.1 = 1421 := by dsimp only [cq_L_410]
  rw [e1, e2, e3]
  exact rf_pcs (l := al_L_410) 0 ck_L_c_410 (List.isEmpty_iff.mp ck_L_n_410)
theorem ck_L_d_411 : ∀ alt ∈ cq_L_411.2.2.2, rf_run nm_cl nm_ct en_xs 8 xx_L kc_L cu_L po_L (some .boolean) 1 0 98 16364 (some cq_L_411.2.2.1) 5000 true cq_L_411.1 alt = true := by
  have e1 : cq_L_411.2.2.2 = al_L_411 := by dsimp only [cq_L_411]
  have e2 : cq_L_411.2.2.1 = mu_L_411 := by dsimp only [cq_L_411]
  have e3 : cq_L_411.1 = 1421 := by dsimp only [cq_L_411]
  rw [e1, e2, e3]
  exact rf_pcs (l := al_L_411) 0 ck_L_c_411 (List.isEmpty_iff.mp ck_L_n_411)
theorem ck_L_d_412 : ∀ alt ∈ cq_L_412.2.2.2, rf_run nm_cl nm_ct en_xs 8 xx_L kc_L cu_L po_L (some .boolean) 1 0 98 16364 (some cq_L_412.2.2.1) 5000 true cq_L_412.1 alt = true := by
  have e1 : cq_L_412.2.2.2 = al_L_412 := by dsimp only [cq_L_412]
  have e2 : cq_L_412.2.2.1 = mu_L_412 := by dsimp only [cq_L_412]
  have e3 : cq_L_412.1 = 1421 := by dsimp only [cq_L_412]
  rw [e1, e2, e3]
  exact rf_pcs (l := al_L_412) 0 ck_L_c_412 (List.isEmpty_iff.mp ck_L_n_412)
theorem ck_L_d_413 : ∀ alt ∈ cq_L_413.2.2.2, rf_run nm_cl nm_ct en_xs 8 xx_L kc_L cu_L po_L (some .boolean) 1 0 98 16364 (some cq_L_413.2.2.1) 5000 true cq_L_413.1 alt = true := by
  have e1 : cq_L_413.2.2.2 = al_L_413 := by dsimp only [cq_L_413]
  have e2 : cq_L_413.2.2.1 = mu_L_413 := by dsimp only [cq_L_413]
  have e3 : cq_L_413.1 = 1421 := by dsimp only [cq_L_413]
  rw [e1, e2, e3]
  exact rf_pcs (l := al_L_413) 0 ck_L_c_413 (List.isEmpty_iff.mp ck_L_n_413)
theorem ck_L_d_414 : ∀ alt ∈ cq_L_414.2.2.2, rf_run nm_cl nm_ct en_xs 8 xx_L kc_L cu_L po_L (some .boolean) 1 0 98 16364 (some cq_L_414.2.2.1) 5000 true cq_L_414.1 alt = true := by
  have e1 : cq_L_414.2.2.2 = al_L_414 := by dsimp only [cq_L_414]
  have e2 : cq_L_414.2.2.1 = mu_L_414 := by dsimp only [cq_L_414]
  have e3 : cq_L_414.1 = 1421 := by dsimp only [cq_L_414]
  rw [e1, e2, e3]
  exact rf_pcs (l := al_L_414) 0 ck_L_c_414 (List.isEmpty_iff.mp ck_L_n_414)
theorem ck_L_d_415 : ∀ alt ∈ cq_L_415.2.2.2, rf_run nm_cl nm_ct en_xs 8 xx_L kc_L cu_L po_L (some .boolean) 1 0 98 16364 (some cq_L_415.2.2.1) 5000 true cq_L_415.1 alt = true := by
  have e1 : cq_L_415.2.2.2 = al_L_415 := by dsimp only [cq_L_415]
  have e2 : cq_L_415.2.2.1 = mu_L_415 := by dsimp only [cq_L_415]
  have e3 : cq_L_415.1 = 1421 := by dsimp only [cq_L_415]
  rw [e1, e2, e3]
  exact rf_pcs (l := al_L_415) 0 ck_L_c_415 (List.isEmpty_iff.mp ck_L_n_415)
theorem ck_L_d_416 : ∀ alt ∈ cq_L_416.2.2.2, rf_run nm_cl nm_ct en_xs 8 xx_L kc_L cu_L po_L (some .boolean) 1 0 98 16364 (some cq_L_416.2.2.1) 5000 true cq_L_416.1 alt = true := by
  have e1 : cq_L_416.2.2.2 = al_L_416 := by dsimp only [cq_L_416]
  have e2 : cq_L_416.2.2.1 = mu_L_416 := by dsimp only [cq_L_416]
  have e3 : cq_L_416.1 = 1421 := by dsimp only [cq_L_416]
  rw [e1, e2, e3]
  exact rf_pcs (l := al_L_416) 0 ck_L_c_416 (List.isEmpty_iff.mp ck_L_n_416)
theorem ck_L_d_417 : ∀ alt ∈ cq_L_417.2.2.2, rf_run nm_cl nm_ct en_xs 8 xx_L kc_L cu_L po_L (some .boolean) 1 0 98 16364 (some cq_L_417.2.2.1) 5000 true cq_L_417.1 alt = true := by
  have e1 : cq_L_417.2.2.2 = al_L_417 := by dsimp only [cq_L_417]
  have e2 : cq_L_417.2.2.1 = mu_L_417 := by dsimp only [cq_L_417]
  have e3 : cq_L_417.1 = 1421 := by dsimp only [cq_L_417]
  rw [e1, e2, e3]
  exact rf_pcs (l := al_L_417) 0 ck_L_c_417 (List.isEmpty_iff.mp ck_L_n_417)
theorem ck_L_d_418 : ∀ alt ∈ cq_L_418.2.2.2, rf_run nm_cl nm_ct en_xs 8 xx_L kc_L cu_L po_L (some .boolean) 1 0 98 16364 (some cq_L_418.2.2.1) 5000 true cq_L_418.1 alt = true := by
  have e1 : cq_L_418.2.2.2 = al_L_418 := by dsimp only [cq_L_418]
  have e2 : cq_L_418.2.2.1 = mu_L_418 := by dsimp only [cq_L_418]
  have e3 : cq_L_418.1 = 1421 := by dsimp only [cq_L_418]
  rw [e1, e2, e3]
  exact rf_pcs (l := al_L_418) 0 ck_L_c_418 (List.isEmpty_iff.mp ck_L_n_418)
theorem ck_L_d_419 : ∀ alt ∈ cq_L_419.2.2.2, rf_run nm_cl nm_ct en_xs 8 xx_L kc_L cu_L po_L (some .boolean) 1 0 98 16364 (some cq_L_419.2.2.1) 5000 true cq_L_419.1 alt = true := by
  have e1 : cq_L_419.2.2.2 = al_L_419 := by dsimp only [cq_L_419]
  have e2 : cq_L_419.2.2.1 = mu_L_419 := by dsimp only [cq_L_419]
  have e3 : cq_L_419.1 = 1421 := by dsimp only [cq_L_419]
  rw [e1, e2, e3]
  exact rf_pcs (l := al_L_419) 0 ck_L_c_419 (List.isEmpty_iff.mp ck_L_n_419)
theorem ck_L_d_420 : ∀ alt ∈ cq_L_420.2.2.2, rf_run nm_cl nm_ct en_xs 8 xx_L kc_L cu_L po_L (some .boolean) 1 0 98 16364 (some cq_L_420.2.2.1) 5000 true cq_L_420.1 alt = true := by
  have e1 : cq_L_420.2.2.2 = al_L_420 := by dsimp only [cq_L_420]
  have e2 : cq_L_420.2.2.1 = mu_L_420 := by dsimp only [cq_L_420]
  have e3 : cq_L_420.1 = 1421 := by dsimp only [cq_L_420]
  rw [e1, e2, e3]
  exact rf_pcs (l := al_L_420) 0 ck_L_c_420 (List.isEmpty_iff.mp ck_L_n_420)
theorem ck_L_d_421 : ∀ alt ∈ cq_L_421.2.2.2, rf_run nm_cl nm_ct en_xs 8 xx_L kc_L cu_L po_L (some .boolean) 1 0 98 16364 (some cq_L_421.2.2.1) 5000 true cq_L_421.1 alt = true := by
  have e1 : cq_L_421.2.2.2 = al_L_421 := by dsimp only [cq_L_421]
  have e2 : cq_L_421.2.2.1 = mu_L_421 := by dsimp only [cq_L_421]
  have e3 : cq_L_421.1 = 1421 := by dsimp only [cq_L_421]
  rw [e1, e2, e3]
  exact rf_pcs (l := al_L_421) 0 ck_L_c_421 (List.isEmpty_iff.mp ck_L_n_421)
theorem ck_L_d_422 : ∀ alt ∈ cq_L_422.2.2.2, rf_run nm_cl nm_ct en_xs 8 xx_L kc_L cu_L po_L (some .boolean) 1 0 98 16364 (some cq_L_422.2.2.1) 5000 true cq_L_422.1 alt = true := by
  have e1 : cq_L_422.2.2.2 = al_L_422 := by dsimp only [cq_L_422]
  have e2 : cq_L_422.2.2.1 = mu_L_422 := by dsimp only [cq_L_422]
  have e3 : cq_L_422.1 = 1421 := by dsimp only [cq_L_422]
  rw [e1, e2, e3]
  exact rf_pcs (l := al_L_422) 0 ck_L_c_422 (List.isEmpty_iff.mp ck_L_n_422)
theorem ck_L_d_423 : ∀ alt ∈ cq_L_423.2.2.2, rf_run nm_cl nm_ct en_xs 8 xx_L kc_L cu_L po_L (some .boolean) 1 0 98 16364 (some cq_L_423.2.2.1) 5000 true cq_L_423.1 alt = true := by
  have e1 : cq_L_423.2.2.2 = al_L_423 := by dsimp only [cq_L_423]
  have e2 : cq_L_423.2.2.1 = mu_L_423 := by dsimp only [cq_L_423]
  have e3 : cq_L_423.1 = 1421 := by dsimp only [cq_L_423]
  rw [e1, e2, e3]
  exact rf_pcs (l := al_L_423) 0 ck_L_c_423 (List.isEmpty_iff.mp ck_L_n_423)
theorem ck_L_d_424 : ∀ alt ∈ cq_L_424.2.2.2, rf_run nm_cl nm_ct en_xs 8 xx_L kc_L cu_L po_L (some .boolean) 1 0 98 16364 (some cq_L_424.2.2.1) 5000 true cq_L_424.1 alt = true := by
  have e1 : cq_L_424.2.2.2 = al_L_424 := by dsimp only [cq_L_424]
  have e2 : cq_L_424.2.2.1 = mu_L_424 := by dsimp only [cq_L_424]
  have e3 : cq_L_424.1 = 1421 := by dsimp only [cq_L_424]
  rw [e1, e2, e3]
  exact rf_pcs (l := al_L_424) 0 ck_L_c_424 (List.isEmpty_iff.mp ck_L_n_424)
theorem ck_L_d_425 : ∀ alt ∈ cq_L_425.2.2.2, rf_run nm_cl nm_ct en_xs 8 xx_L kc_L cu_L po_L (some .boolean) 1 0 98 16364 (some cq_L_425.2.2.1) 5000 true cq_L_425.1 alt = true := by
  have e1 : cq_L_425.2.2.2 = al_L_425 := by dsimp only [cq_L_425]
  have e2 : cq_L_425.2.2.1 = mu_L_425 := by dsimp only [cq_L_425]
  have e3 : cq_L_425.1 = 1421 := by dsimp only [cq_L_425]
  rw [e1, e2, e3]
  exact rf_pcs (l := al_L_425) 0 ck_L_c_425 (List.isEmpty_iff.mp ck_L_n_425)
theorem ck_L_d_426 : ∀ alt ∈ cq_L_426.2.2.2, rf_run nm_cl nm_ct en_xs 8 xx_L kc_L cu_L po_L (some .boolean) 1 0 98 16364 (some cq_L_426.2.2.1) 5000 true cq_L_426.1 alt = true := by
  have e1 : cq_L_426.2.2.2 = al_L_426 := by dsimp only [cq_L_426]
  have e2 : cq_L_426.2.2.1 = mu_L_426 := by dsimp only [cq_L_426]
  have e3 : cq_L_426.1 = 1421 := by dsimp only [cq_L_426]
  rw [e1, e2, e3]
  exact rf_pcs (l := al_L_426) 0 ck_L_c_426 (List.isEmpty_iff.mp ck_L_n_426)
theorem ck_L_d_427 : ∀ alt ∈ cq_L_427.2.2.2, rf_run nm_cl nm_ct en_xs 8 xx_L kc_L cu_L po_L (some .boolean) 1 0 98 16364 (some cq_L_427.2.2.1) 5000 true cq_L_427.1 alt = true := by
  have e1 : cq_L_427.2.2.2 = al_L_427 := by dsimp only [cq_L_427]
  have e2 : cq_L_427.2.2.1 = mu_L_427 := by dsimp only [cq_L_427]
  have e3 : cq_L_427.1 = 1421 := by dsimp only [cq_L_427]
  rw [e1, e2, e3]
  exact rf_pcs (l := al_L_427) 0 ck_L_c_427 (List.isEmpty_iff.mp ck_L_n_427)
theorem ck_L_d_428 : ∀ alt ∈ cq_L_428.2.2.2, rf_run nm_cl nm_ct en_xs 8 xx_L kc_L cu_L po_L (some .boolean) 1 0 98 16364 (some cq_L_428.2.2.1) 5000 true cq_L_428.1 alt = true := by
  have e1 : cq_L_428.2.2.2 = al_L_428 := by dsimp only [cq_L_428]
  have e2 : cq_L_428.2.2.1 = mu_L_428 := by dsimp only [cq_L_428]
  have e3 : cq_L_428.1 = 1421 := by dsimp only [cq_L_428]
  rw [e1, e2, e3]
  exact rf_pcs (l := al_L_428) 0 ck_L_c_428 (List.isEmpty_iff.mp ck_L_n_428)
theorem ck_L_d_429 : ∀ alt ∈ cq_L_429.2.2.2, rf_run nm_cl nm_ct en_xs 8 xx_L kc_L cu_L po_L (some .boolean) 1 0 98 16364 (some cq_L_429.2.2.1) 5000 true cq_L_429.1 alt = true := by
  have e1 : cq_L_429.2.2.2 = al_L_429 := by dsimp only [cq_L_429]
  have e2 : cq_L_429.2.2.1 = mu_L_429 := by dsimp only [cq_L_429]
  have e3 : cq_L_429.1 = 1421 := by dsimp only [cq_L_429]
  rw [e1, e2, e3]
  exact rf_pcs (l := al_L_429) 0 ck_L_c_429 (List.isEmpty_iff.mp ck_L_n_429)
theorem ck_L_d_430 : ∀ alt ∈ cq_L_430.2.2.2, rf_run nm_cl nm_ct en_xs 8 xx_L kc_L cu_L po_L (some .boolean) 1 0 98 16364 (some cq_L_430.2.2.1) 5000 true cq_L_430.1 alt = true := by
  have e1 : cq_L_430.2.2.2 = al_L_430 := by dsimp only [cq_L_430]
  have e2 : cq_L_430.2.2.1 = mu_L_430 := by dsimp only [cq_L_430]
  have e3 : cq_L_430.1 = 1421 := by dsimp only [cq_L_430]
  rw [e1, e2, e3]
  exact rf_pcs (l := al_L_430) 0 ck_L_c_430 (List.isEmpty_iff.mp ck_L_n_430)
theorem ck_L_d_431 : ∀ alt ∈ cq_L_431.2.2.2, rf_run nm_cl nm_ct en_xs 8 xx_L kc_L cu_L po_L (some .boolean) 1 0 98 16364 (some cq_L_431.2.2.1) 5000 true cq_L_431.1 alt = true := by
  have e1 : cq_L_431.2.2.2 = al_L_431 := by dsimp only [cq_L_431]
  have e2 : cq_L_431.2.2.1 = mu_L_431 := by dsimp only [cq_L_431]
  have e3 : cq_L_431.1 = 1421 := by dsimp only [cq_L_431]
  rw [e1, e2, e3]
  exact rf_pcs (l := al_L_431) 0 ck_L_c_431 (List.isEmpty_iff.mp ck_L_n_431)
theorem ck_L_d_432 : ∀ alt ∈ cq_L_432.2.2.2, rf_run nm_cl nm_ct en_xs 8 xx_L kc_L cu_L po_L (some .boolean) 1 0 98 16364 (some cq_L_432.2.2.1) 5000 true cq_L_432.1 alt = true := by
  have e1 : cq_L_432.2.2.2 = al_L_432 := by dsimp only [cq_L_432]
  have e2 : cq_L_432.2.2.1 = mu_L_432 := by dsimp only [cq_L_432]
  have e3 : cq_L_432.1 = 1421 := by dsimp only [cq_L_432]
  rw [e1, e2, e3]
  exact rf_pcs (l := al_L_432) 0 ck_L_c_432 (List.isEmpty_iff.mp ck_L_n_432)
theorem ck_L_d_433 : ∀ alt ∈ cq_L_433.2.2.2, rf_run nm_cl nm_ct en_xs 8 xx_L kc_L cu_L po_L (some .boolean) 1 0 98 16364 (some cq_L_433.2.2.1) 5000 true cq_L_433.1 alt = true := by
  have e1 : cq_L_433.2.2.2 = al_L_433 := by dsimp only [cq_L_433]
  have e2 : cq_L_433.2.2.1 = mu_L_433 := by dsimp only [cq_L_433]
  have e3 : cq_L_433.1 = 1421 := by dsimp only [cq_L_433]
  rw [e1, e2, e3]
  exact rf_pcs (l := al_L_433) 0 ck_L_c_433 (List.isEmpty_iff.mp ck_L_n_433)
theorem ck_L_d_434 : ∀ alt ∈ cq_L_434.2.2.2, rf_run nm_cl nm_ct en_xs 8 xx_L kc_L cu_L po_L (some .boolean) 1 0 98 16364 (some cq_L_434.2.2.1) 5000 true cq_L_434.1 alt = true := by
  have e1 : cq_L_434.2.2.2 = al_L_434 := by dsimp only [cq_L_434]
  have e2 : cq_L_434.2.2.1 = mu_L_434 := by dsimp only [cq_L_434]
  have e3 : cq_L_434.1 = 1421 := by dsimp only [cq_L_434]
  rw [e1, e2, e3]
  exact rf_pcs (l := al_L_434) 0 ck_L_c_434 (List.isEmpty_iff.mp ck_L_n_434)
theorem ck_L_d_435 : ∀ alt ∈ cq_L_435.2.2.2, rf_run nm_cl nm_ct en_xs 8 xx_L kc_L cu_L po_L (some .boolean) 1 0 98 16364 (some cq_L_435.2.2.1) 5000 true cq_L_435.1 alt = true := by
  have e1 : cq_L_435.2.2.2 = al_L_435 := by dsimp only [cq_L_435]
  have e2 : cq_L_435.2.2.1 = mu_L_435 := by dsimp only [cq_L_435]
  have e3 : cq_L_435.1 = 1421 := by dsimp only [cq_L_435]
  rw [e1, e2, e3]
  exact rf_pcs (l := al_L_435) 0 ck_L_c_435 (List.isEmpty_iff.mp ck_L_n_435)
theorem ck_L_d_436 : ∀ alt ∈ cq_L_436.2.2.2, rf_run nm_cl nm_ct en_xs 8 xx_L kc_L cu_L po_L (some .boolean) 1 0 98 16364 (some cq_L_436.2.2.1) 5000 true cq_L_436.1 alt = true := by
  have e1 : cq_L_436.2.2.2 = al_L_436 := by dsimp only [cq_L_436]
  have e2 : cq_L_436.2.2.1 = mu_L_436 := by dsimp only [cq_L_436]
  have e3 : cq_L_436.1 = 1421 := by dsimp only [cq_L_436]
  rw [e1, e2, e3]
  exact rf_pcs (l := al_L_436) 0 ck_L_c_436 (List.isEmpty_iff.mp ck_L_n_436)
theorem ck_L_d_437 : ∀ alt ∈ cq_L_437.2.2.2, rf_run nm_cl nm_ct en_xs 8 xx_L kc_L cu_L po_L (some .boolean) 1 0 98 16364 (some cq_L_437.2.2.1) 5000 true cq_L_437.1 alt = true := by
  have e1 : cq_L_437.2.2.2 = al_L_437 := by dsimp only [cq_L_437]
  have e2 : cq_L_437.2.2.1 = mu_L_437 := by dsimp only [cq_L_437]
  have e3 : cq_L_437.1 = 1421 := by dsimp only [cq_L_437]
  rw [e1, e2, e3]
  exact rf_pcs (l := al_L_437) 0 ck_L_c_437 (List.isEmpty_iff.mp ck_L_n_437)
theorem ck_L_d_438 : ∀ alt ∈ cq_L_438.2.2.2, rf_run nm_cl nm_ct en_xs 8 xx_L kc_L cu_L po_L (some .boolean) 1 0 98 16364 (some cq_L_438.2.2.1) 5000 true cq_L_438.1 alt = true := by
  have e1 : cq_L_438.2.2.2 = al_L_438 := by dsimp only [cq_L_438]
  have e2 : cq_L_438.2.2.1 = mu_L_438 := by dsimp only [cq_L_438]
  have e3 : cq_L_438.1 = 1421 := by dsimp only [cq_L_438]
  rw [e1, e2, e3]
  exact rf_pcs (l := al_L_438) 0 ck_L_c_438 (List.isEmpty_iff.mp ck_L_n_438)
theorem ck_L_d_439 : ∀ alt ∈ cq_L_439.2.2.2, rf_run nm_cl nm_ct en_xs 8 xx_L kc_L cu_L po_L (some .boolean) 1 0 98 16364 (some cq_L_439.2.2.1) 5000 true cq_L_439.1 alt = true := by
  have e1 : cq_L_439.2.2.2 = al_L_439 := by dsimp only [cq_L_439]
  have e2 : cq_L_439.2.2.1 = mu_L_439 := by dsimp only [cq_L_439]
  have e3 : cq_L_439.1 = 1421 := by dsimp only [cq_L_439]
  rw [e1, e2, e3]
  exact rf_pcs (l := al_L_439) 0 ck_L_c_439 (List.isEmpty_iff.mp ck_L_n_439)
theorem ck_L_d_440 : ∀ alt ∈ cq_L_440.2.2.2, rf_run nm_cl nm_ct en_xs 8 xx_L kc_L cu_L po_L (some .boolean) 1 0 98 16364 (some cq_L_440.2.2.1) 5000 true cq_L_440.1 alt = true := by
  have e1 : cq_L_440.2.2.2 = al_L_440 := by dsimp only [cq_L_440]
  have e2 : cq_L_440.2.2.1 = mu_L_440 := by dsimp only [cq_L_440]
  have e3 : cq_L_440.1 = 1421 := by dsimp only [cq_L_440]
  rw [e1, e2, e3]
  exact rf_pcs (l := al_L_440) 0 ck_L_c_440 (List.isEmpty_iff.mp ck_L_n_440)
theorem ck_L_d_441 : ∀ alt ∈ cq_L_441.2.2.2, rf_run nm_cl nm_ct en_xs 8 xx_L kc_L cu_L po_L (some .boolean) 1 0 98 16364 (some cq_L_441.2.2.1) 5000 true cq_L_441.1 alt = true := by
  have e1 : cq_L_441.2.2.2 = al_L_441 := by dsimp only [cq_L_441]
  have e2 : cq_L_441.2.2.1 = mu_L_441 := by dsimp only [cq_L_441]
  have e3 : cq_L_441.1 = 1421 := by dsimp only [cq_L_441]
  rw [e1, e2, e3]
  exact rf_pcs (l := al_L_441) 0 ck_L_c_441 (List.isEmpty_iff.mp ck_L_n_441)
theorem ck_L_d_442 : ∀ alt ∈ cq_L_442.2.2.2, rf_run nm_cl nm_ct en_xs 8 xx_L kc_L cu_L po_L (some .boolean) 1 0 98 16364 (some cq_L_442.2.2.1) 5000 true cq_L_442.1 alt = true := by
  have e1 : cq_L_442.2.2.2 = al_L_442 := by dsimp only [cq_L_442]
  have e2 : cq_L_442.2.2.1 = mu_L_442 := by dsimp only [cq_L_442]
  have e3 : cq_L_442.1 = 1421 := by dsimp only [cq_L_442]
  rw [e1, e2, e3]
  exact rf_pcs (l := al_L_442) 0 ck_L_c_442 (List.isEmpty_iff.mp ck_L_n_442)
theorem ck_L_d_443 : ∀ alt ∈ cq_L_443.2.2.2, rf_run nm_cl nm_ct en_xs 8 xx_L kc_L cu_L po_L (some .boolean) 1 0 98 16364 (some cq_L_443.2.2.1) 5000 true cq_L_443.1 alt = true := by
  have e1 : cq_L_443.2.2.2 = al_L_443 := by dsimp only [cq_L_443]
  have e2 : cq_L_443.2.2.1 = mu_L_443 := by dsimp only [cq_L_443]
  have e3 : cq_L_443.1 = 1421 := by dsimp only [cq_L_443]
  rw [e1, e2, e3]
  exact rf_pcs (l := al_L_443) 0 ck_L_c_443 (List.isEmpty_iff.mp ck_L_n_443)
theorem ck_L_d_444 : ∀ alt ∈ cq_L_444.2.2.2, rf_run nm_cl nm_ct en_xs 8 xx_L kc_L cu_L po_L (some .boolean) 1 0 98 16364 (some cq_L_444.2.2.1) 5000 true cq_L_444.1 alt = true := by
  have e1 : cq_L_444.2.2.2 = al_L_444 := by dsimp only [cq_L_444]
  have e2 : cq_L_444.2.2.1 = mu_L_444 := by dsimp only [cq_L_444]
  have e3 : cq_L_444.1 = 1421 := by dsimp only [cq_L_444]
  rw [e1, e2, e3]
  exact rf_pcs (l := al_L_444) 0 ck_L_c_444 (List.isEmpty_iff.mp ck_L_n_444)
theorem ck_L_d_445 : ∀ alt ∈ cq_L_445.2.2.2, rf_run nm_cl nm_ct en_xs 8 xx_L kc_L cu_L po_L (some .boolean) 1 0 98 16364 (some cq_L_445.2.2.1) 5000 true cq_L_445.1 alt = true := by
  have e1 : cq_L_445.2.2.2 = al_L_445 := by dsimp only [cq_L_445]
  have e2 : cq_L_445.2.2.1 = mu_L_445 := by dsimp only [cq_L_445]
  have e3 : cq_L_445.1 = 1421 := by dsimp only [cq_L_445]
  rw [e1, e2, e3]
  exact rf_pcs (l := al_L_445) 0 ck_L_c_445 (List.isEmpty_iff.mp ck_L_n_445)
theorem ck_L_d_446 : ∀ alt ∈ cq_L_446.2.2.2, rf_run nm_cl nm_ct en_xs 8 xx_L kc_L cu_L po_L (some .boolean) 1 0 98 16364 (some cq_L_446.2.2.1) 5000 true cq_L_446.1 alt = true := by
  have e1 : cq_L_446.2.2.2 = al_L_446 := by dsimp only [cq_L_446]
  have e2 : cq_L_446.2.2.1 = mu_L_446 := by dsimp only [cq_L_446]
  have e3 : cq_L_446.1 = 1421 := by dsimp only [cq_L_446]
  rw [e1, e2, e3]
  exact rf_pcs (l := al_L_446) 0 ck_L_c_446 (List.isEmpty_iff.mp ck_L_n_446)
theorem ck_L_d_447 : ∀ alt ∈ cq_L_447.2.2.2, rf_run nm_cl nm_ct en_xs 8 xx_L kc_L cu_L po_L (some .boolean) 1 0 98 16364 (some cq_L_447.2.2.1) 5000 true cq_L_447.1 alt = true := by
  have e1 : cq_L_447.2.2.2 = al_L_447 := by dsimp only [cq_L_447]
  have e2 : cq_L_447.2.2.1 = mu_L_447 := by dsimp only [cq_L_447]
  have e3 : cq_L_447.1 = 1421 := by dsimp only [cq_L_447]
  rw [e1, e2, e3]
  exact rf_pcs (l := al_L_447) 0 ck_L_c_447 (List.isEmpty_iff.mp ck_L_n_447)
theorem ck_L_d_448 : ∀ alt ∈ cq_L_448.2.2.2, rf_run nm_cl nm_ct en_xs 8 xx_L kc_L cu_L po_L (some .boolean) 1 0 98 16364 (some cq_L_448.2.2.1) 5000 true cq_L_448.1 alt = true := by
  have e1 : cq_L_448.2.2.2 = al_L_448 := by dsimp only [cq_L_448]
  have e2 : cq_L_448.2.2.1 = mu_L_448 := by dsimp only [cq_L_448]
  have e3 : cq_L_448.1 = 1421 := by dsimp only [cq_L_448]
  rw [e1, e2, e3]
  exact rf_pcs (l := al_L_448) 0 ck_L_c_448 (List.isEmpty_iff.mp ck_L_n_448)
theorem ck_L_d_449 : ∀ alt ∈ cq_L_449.2.2.2, rf_run nm_cl nm_ct en_xs 8 xx_L kc_L cu_L po_L (some .boolean) 1 0 98 16364 (some cq_L_449.2.2.1) 5000 true cq_L_449.1 alt = true := by
  have e1 : cq_L_449.2.2.2 = al_L_449 := by dsimp only [cq_L_449]
  have e2 : cq_L_449.2.2.1 = mu_L_449 := by dsimp only [cq_L_449]
  have e3 : cq_L_449.1 = 1421 := by dsimp only [cq_L_449]
  rw [e1, e2, e3]
  exact rf_pcs (l := al_L_449) 0 ck_L_c_449 (List.isEmpty_iff.mp ck_L_n_449)
theorem ck_L_d_450 : ∀ alt ∈ cq_L_450.2.2.2, rf_run nm_cl nm_ct en_xs 8 xx_L kc_L cu_L po_L (some .boolean) 1 0 98 16364 (some cq_L_450.2.2.1) 5000 true cq_L_450.1 alt = true := by
  have e1 : cq_L_450.2.2.2 = al_L_450 := by dsimp only [cq_L_450]
  have e2 : cq_L_450.2.2.1 = mu_L_450 := by dsimp only [cq_L_450]
  have e3 : cq_L_450.1 = 1421 := by dsimp only [cq_L_450]
  rw [e1, e2, e3]
  exact rf_pcs (l := al_L_450) 0 ck_L_c_450 (List.isEmpty_iff.mp ck_L_n_450)
theorem ck_L_d_451 : ∀ alt ∈ cq_L_451.2.2.2, rf_run nm_cl nm_ct en_xs 8 xx_L kc_L cu_L po_L (some .boolean) 1 0 98 16364 (some cq_L_451.2.2.1) 5000 true cq_L_451.1 alt = true := by
  have e1 : cq_L_451.2.2.2 = al_L_451 := by dsimp only [cq_L_451]
  have e2 : cq_L_451.2.2.1 = mu_L_451 := by dsimp only [cq_L_451]
  have e3 : cq_L_451.1 = 1421 := by dsimp only [cq_L_451]
  rw [e1, e2, e3]
  exact rf_pcs (l := al_L_451) 0 ck_L_c_451 (List.isEmpty_iff.mp ck_L_n_451)
theorem ck_L_d_452 : ∀ alt ∈ cq_L_452.2.2.2, rf_run nm_cl nm_ct en_xs 8 xx_L kc_L cu_L po_L (some .boolean) 1 0 98 16364 (some cq_L_452.2.2.1) 5000 true cq_L_452.1 alt = true := by
  have e1 : cq_L_452.2.2.2 = al_L_452 := by dsimp only [cq_L_452]
  have e2 : cq_L_452.2.2.1 = mu_L_452 := by dsimp only [cq_L_452]
  have e3 : cq_L_452.1 = 1421 := by dsimp only [cq_L_452]
  rw [e1, e2, e3]
  exact rf_pcs (l := al_L_452) 0 ck_L_c_452 (List.isEmpty_iff.mp ck_L_n_452)
theorem ck_L_d_453 : ∀ alt ∈ cq_L_453.2.2.2, rf_run nm_cl nm_ct en_xs 8 xx_L kc_L cu_L po_L (some .boolean) 1 0 98 16364 (some cq_L_453.2.2.1) 5000 true cq_L_453.1 alt = true := by
  have e1 : cq_L_453.2.2.2 = al_L_453 := by dsimp only [cq_L_453]
  have e2 : cq_L_453.2.2.1 = mu_L_453 := by dsimp only [cq_L_453]
  have e3 : cq_L_453.1 = 1421 := by dsimp only [cq_L_453]
  rw [e1, e2, e3]
  exact rf_pcs (l := al_L_453) 0 ck_L_c_453 (List.isEmpty_iff.mp ck_L_n_453)
theorem ck_L_d_454 : ∀ alt ∈ cq_L_454.2.2.2, rf_run nm_cl nm_ct en_xs 8 xx_L kc_L cu_L po_L (some .boolean) 1 0 98 16364 (some cq_L_454.2.2.1) 5000 true cq_L_454.1 alt = true := by
  have e1 : cq_L_454.2.2.2 = al_L_454 := by dsimp only [cq_L_454]
  have e2 : cq_L_454.2.2.1 = mu_L_454 := by dsimp only [cq_L_454]
  have e3 : cq_L_454.1 = 1421 := by dsimp only [cq_L_454]
  rw [e1, e2, e3]
  exact rf_pcs (l := al_L_454) 0 ck_L_c_454 (List.isEmpty_iff.mp ck_L_n_454)
theorem ck_L_d_455 : ∀ alt ∈ cq_L_455.2.2.2, rf_run nm_cl nm_ct en_xs 8 xx_L kc_L cu_L po_L (some .boolean) 1 0 98 16364 (some cq_L_455.2.2.1) 5000 true cq_L_455.1 alt = true := by
  have e1 : cq_L_455.2.2.2 = al_L_455 := by dsimp only [cq_L_455]
  have e2 : cq_L_455.2.2.1 = mu_L_455 := by dsimp only [cq_L_455]
  have e3 : cq_L_455.1 = 1421 := by dsimp only [cq_L_455]
  rw [e1, e2, e3]
  exact rf_pcs (l := al_L_455) 0 ck_L_c_455 (List.isEmpty_iff.mp ck_L_n_455)
theorem ck_L_d_456 : ∀ alt ∈ cq_L_456.2.2.2, rf_run nm_cl nm_ct en_xs 8 xx_L kc_L cu_L po_L (some .boolean) 1 0 98 16364 (some cq_L_456.2.2.1) 5000 true cq_L_456.1 alt = true := by
  have e1 : cq_L_456.2.2.2 = al_L_456 := by dsimp only [cq_L_456]
  have e2 : cq_L_456.2.2.1 = mu_L_456 := by dsimp only [cq_L_456]
  have e3 : cq_L_456.1 = 1421 := by dsimp only [cq_L_456]
  rw [e1, e2, e3]
  exact rf_pcs (l := al_L_456) 0 ck_L_c_456 (List.isEmpty_iff.mp ck_L_n_456)
theorem ck_L_d_457 : ∀ alt ∈ cq_L_457.2.2.2, rf_run nm_cl nm_ct en_xs 8 xx_L kc_L cu_L po_L (some .boolean) 1 0 98 16364 (some cq_L_457.2.2.1) 5000 true cq_L_457.1 alt = true := by
  have e1 : cq_L_457.2.2.2 = al_L_457 := by dsimp only [cq_L_457]
  have e2 : cq_L_457.2.2.1 = mu_L_457 := by dsimp only [cq_L_457]
  have e3 : cq_L_457.1 = 1421 := by dsimp only [cq_L_457]
  rw [e1, e2, e3]
  exact rf_pcs (l := al_L_457) 0 ck_L_c_457 (List.isEmpty_iff.mp ck_L_n_457)
theorem ck_L_d_458 : ∀ alt ∈ cq_L_458.2.2.2, rf_run nm_cl nm_ct en_xs 8 xx_L kc_L cu_L po_L (some .boolean) 1 0 98 16364 (some cq_L_458.2.2.1) 5000 true cq_L_458.1 alt = true := by
  have e1 : cq_L_458.2.2.2 = al_L_458 := by dsimp only [cq_L_458]
  have e2 : cq_L_458.2.2.1 = mu_L_458 := by dsimp only [cq_L_458]
  have e3 : cq_L_458.1 = 1421 := by dsimp only [cq_L_458]
  rw [e1, e2, e3]
  exact rf_pcs (l := al_L_458) 0 ck_L_c_458 (List.isEmpty_iff.mp ck_L_n_458)
theorem ck_L_d_459 : ∀ alt ∈ cq_L_459.2.2.2, rf_run nm_cl nm_ct en_xs 8 xx_L kc_L cu_L po_L (some .boolean) 1 0 98 16364 (some cq_L_459.2.2.1) 5000 true cq_L_459.1 alt = true := by
  have e1 : cq_L_459.2.2.2 = al_L_459 := by dsimp only [cq_L_459]
  have e2 : cq_L_459.2.2.1 = mu_L_459 := by dsimp only [cq_L_459]
  have e3 : cq_L_459.1 = 1421 := by dsimp only [cq_L_459]
  rw [e1, e2, e3]
  exact rf_pcs (l := al_L_459) 1 ck_L_c_459 (List.isEmpty_iff.mp ck_L_n_459)
theorem ck_L_d_460 : ∀ alt ∈ cq_L_460.2.2.2, rf_run nm_cl nm_ct en_xs 8 xx_L kc_L cu_L po_L (some .boolean) 1 0 98 16364 (some cq_L_460.2.2.1) 5000 true cq_L_460.1 alt = true := by
  have e1 : cq_L_460.2.2.2 = al_L_460 := by dsimp only [cq_L_460]
  have e2 : cq_L_460.2.2.1 = mu_L_460 := by dsimp only [cq_L_460]
  have e3 : cq_L_460.1 = 1421 := by dsimp only [cq_L_460]
  rw [e1, e2, e3]
  exact rf_pcs (l := al_L_460) 0 ck_L_c_460 (List.isEmpty_iff.mp ck_L_n_460)
theorem ck_L_d_461 : ∀ alt ∈ cq_L_461.2.2.2, rf_run nm_cl nm_ct en_xs 8 xx_L kc_L cu_L po_L (some .boolean) 1 0 98 16364 (some cq_L_461.2.2.1) 5000 true cq_L_461.1 alt = true := by
  have e1 : cq_L_461.2.2.2 = al_L_461 := by dsimp only [cq_L_461]
  have e2 : cq_L_461.2.2.1 = mu_L_461 := by dsimp only [cq_L_461]
  have e3 : cq_L_461.1 = 1421 := by dsimp only [cq_L_461]
  rw [e1, e2, e3]
  exact rf_pcs (l := al_L_461) 0 ck_L_c_461 (List.isEmpty_iff.mp ck_L_n_461)
theorem ck_L_d_462 : ∀ alt ∈ cq_L_462.2.2.2, rf_run nm_cl nm_ct en_xs 8 xx_L kc_L cu_L po_L (some .boolean) 1 0 98 16364 (some cq_L_462.2.2.1) 5000 true cq_L_462.1 alt = true := by
  have e1 : cq_L_462.2.2.2 = al_L_462 := by dsimp only [cq_L_462]
  have e2 : cq_L_462.2.2.1 = mu_L_462 := by dsimp only [cq_L_462]
  have e3 : cq_L_462.1 = 1421 := by dsimp only [cq_L_462]
  rw [e1, e2, e3]
  exact rf_pcs (l := al_L_462) 0 ck_L_c_462 (List.isEmpty_iff.mp ck_L_n_462)
theorem ck_L_d_463 : ∀ alt ∈ cq_L_463.2.2.2, rf_run nm_cl nm_ct en_xs 8 xx_L kc_L cu_L po_L (some .boolean) 1 0 98 16364 (some cq_L_463.2.2.1) 5000 true cq_L_463.1 alt = true := by
  have e1 : cq_L_463.2.2.2 = al_L_463 := by dsimp only [cq_L_463]
  have e2 : cq_L_463.2.2.1 = mu_L_463 := by dsimp only [cq_L_463]
  have e3 : cq_L_463.1 = 1421 := by dsimp only [cq_L_463]
  rw [e1, e2, e3]
  exact rf_pcs (l := al_L_463) 0 ck_L_c_463 (List.isEmpty_iff.mp ck_L_n_463)
theorem ck_L_d_464 : ∀ alt ∈ cq_L_464.2.2.2, rf_run nm_cl nm_ct en_xs 8 xx_L kc_L cu_L po_L (some .boolean) 1 0 98 16364 (some cq_L_464.2.2.1) 5000 true cq_L_464.1 alt = true := by
  have e1 : cq_L_464.2.2.2 = al_L_464 := by dsimp only [cq_L_464]
  have e2 : cq_L_464.2.2.1 = mu_L_464 := by dsimp only [cq_L_464]
  have e3 : cq_L_464.1 = 1421 := by dsimp only [cq_L_464]
  rw [e1, e2, e3]
  exact rf_pcs (l := al_L_464) 0 ck_L_c_464 (List.isEmpty_iff.mp ck_L_n_464)
theorem ck_L_d_465 : ∀ alt ∈ cq_L_465.2.2.2, rf_run nm_cl nm_ct en_xs 8 xx_L kc_L cu_L po_L (some .boolean) 1 0 98 16364 (some cq_L_465.2.2.1) 5000 true cq_L_465.1 alt = true := by
  have e1 : cq_L_465.2.2.2 = al_L_465 := by dsimp only [cq_L_465]
  have e2 : cq_L_465.2.2.1 = mu_L_465 := by dsimp only [cq_L_465]
  have e3 : cq_L_465.1 = 1421 := by dsimp only [cq_L_465]
  rw [e1, e2, e3]
  exact rf_pcs (l := al_L_465) 0 ck_L_c_465 (List.isEmpty_iff.mp ck_L_n_465)
theorem ck_L_d_466 : ∀ alt ∈ cq_L_466.2.2.2, rf_run nm_cl nm_ct en_xs 8 xx_L kc_L cu_L po_L (some .boolean) 1 0 98 16364 (some cq_L_466.2.2.1) 5000 true cq_L_466.1 alt = true := by
  have e1 : cq_L_466.2.2.2 = al_L_466 := by dsimp only [cq_L_466]
  have e2 : cq_L_466.2.2.1 = mu_L_466 := by dsimp only [cq_L_466]
  have e3 : cq_L_466.1 = 1421 := by dsimp only [cq_L_466]
  rw [e1, e2, e3]
  exact rf_pcs (l := al_L_466) 0 ck_L_c_466 (List.isEmpty_iff.mp ck_L_n_466)
theorem ck_L_d_467 : ∀ alt ∈ cq_L_467.2.2.2, rf_run nm_cl nm_ct en_xs 8 xx_L kc_L cu_L po_L (some .boolean) 1 0 98 16364 (some cq_L_467.2.2.1) 5000 true cq_L_467.1 alt = true := by
  have e1 : cq_L_467.2.2.2 = al_L_467 := by dsimp only [cq_L_467]
  have e2 : cq_L_467.2.2.1 = mu_L_467 := by dsimp only [cq_L_467]
  have e3 : cq_L_467.1 = 1421 := by dsimp only [cq_L_467]
  rw [e1, e2, e3]
  exact rf_pcs (l := al_L_467) 0 ck_L_c_467 (List.isEmpty_iff.mp ck_L_n_467)
theorem ck_L_d_468 : ∀ alt ∈ cq_L_468.2.2.2, rf_run nm_cl nm_ct en_xs 8 xx_L kc_L cu_L po_L (some .boolean) 1 0 98 16364 (some cq_L_468.2.2.1) 5000 true cq_L_468.1 alt = true := by
  have e1 : cq_L_468.2.2.2 = al_L_468 := by dsimp only [cq_L_468]
  have e2 : cq_L_468.2.2.1 = mu_L_468 := by dsimp only [cq_L_468]
  have e3 : cq_L_468.1 = 1421 := by dsimp only [cq_L_468]
  rw [e1, e2, e3]
  exact rf_pcs (l := al_L_468) 0 ck_L_c_468 (List.isEmpty_iff.mp ck_L_n_468)
theorem ck_L_d_469 : ∀ alt ∈ cq_L_469.2.2.2, rf_run nm_cl nm_ct en_xs 8 xx_L kc_L cu_L po_L (some .boolean) 1 0 98 16364 (some cq_L_469.2.2.1) 5000 true cq_L_469.1 alt = true := by
  have e1 : cq_L_469.2.2.2 = al_L_469 := by dsimp only [cq_L_469]
  have e2 : cq_L_469.2.2.1 = mu_L_469 := by dsimp only [cq_L_469]
  have e3 : cq_L_469.1 = 1421 := by dsimp only [cq_L_469]
  rw [e1, e2, e3]
  exact rf_pcs (l := al_L_469) 0 ck_L_c_469 (List.isEmpty_iff.mp ck_L_n_469)
theorem ck_L_d_470 : ∀ alt ∈ cq_L_470.2.2.2, rf_run nm_cl nm_ct en_xs 8 xx_L kc_L cu_L po_L (some .boolean) 1 0 98 16364 (some cq_L_470.2.2.1) 5000 true cq_L_470.1 alt = true := by
  have e1 : cq_L_470.2.2.2 = al_L_470 := by dsimp only [cq_L_470]
  have e2 : cq_L_470.2.2.1 = mu_L_470 := by dsimp only [cq_L_470]
  have e3 : cq_L_470.1 = 1421 := by dsimp only [cq_L_470]
  rw [e1, e2, e3]
  exact rf_pcs (l := al_L_470) 0 ck_L_c_470 (List.isEmpty_iff.mp ck_L_n_470)
theorem ck_L_d_471 : ∀ alt ∈ cq_L_471.2.2.2, rf_run nm_cl nm_ct en_xs 8 xx_L kc_L cu_L po_L (some .boolean) 1 0 98 16364 (some cq_L_471.2.2.1) 5000 true cq_L_471.1 alt = true := by
  have e1 : cq_L_471.2.2.2 = al_L_471 := by dsimp only [cq_L_471]
  have e2 : cq_L_471.2.2.1 = mu_L_471 := by dsimp only [cq_L_471]
  have e3 : cq_L_471.1 = 1421 := by dsimp only [cq_L_471]
  rw [e1, e2, e3]
  exact rf_pcs (l := al_L_471) 0 ck_L_c_471 (List.isEmpty_iff.mp ck_L_n_471)
theorem ck_L_d_472 : ∀ alt ∈ cq_L_472.2.2.2, rf_run nm_cl nm_ct en_xs 8 xx_L kc_L cu_L po_L (some .boolean) 1 0 98 16364 (some cq_L_472.2.2.1) 5000 true cq_L_472.1 alt = true := by
  have e1 : cq_L_472.2.2.2 = al_L_472 := by dsimp only [cq_L_472]
  have e2 : cq_L_472.2.2.1 = mu_L_472 := by dsimp only [cq_L_472]
  have e3 : cq_L_472.1 = 1421 := by dsimp only [cq_L_472]
  rw [e1, e2, e3]
  exact rf_pcs (l := al_L_472) 1 ck_L_c_472 (List.isEmpty_iff.mp ck_L_n_472)
theorem ck_L_d_473 : ∀ alt ∈ cq_L_473.2.2.2, rf_run nm_cl nm_ct en_xs 8 xx_L kc_L cu_L po_L (some .boolean) 1 0 98 16364 (some cq_L_473.2.2.1) 5000 true cq_L_473.1 alt = true := by
  have e1 : cq_L_473.2.2.2 = al_L_473 := by dsimp only [cq_L_473]
  have e2 : cq_L_473.2.2.1 = mu_L_473 := by dsimp only [cq_L_473]
  have e3 : cq_L_473.1 = 1421 := by dsimp only [cq_L_473]
  rw [e1, e2, e3]
  exact rf_pcs (l := al_L_473) 1 ck_L_c_473 (List.isEmpty_iff.mp ck_L_n_473)
theorem ck_L_d_474 : ∀ alt ∈ cq_L_474.2.2.2, rf_run nm_cl nm_ct en_xs 8 xx_L kc_L cu_L po_L (some .boolean) 1 0 98 16364 (some cq_L_474.2.2.1) 5000 true cq_L_474.1 alt = true := by
  have e1 : cq_L_474.2.2.2 = al_L_474 := by dsimp only [cq_L_474]
  have e2 : cq_L_474.2.2.1 = mu_L_474 := by dsimp only [cq_L_474]
  have e3 : cq_L_474.1 = 1421 := by dsimp only [cq_L_474]
  rw [e1, e2, e3]
  exact rf_pcs (l := al_L_474) 1 ck_L_c_474 (List.isEmpty_iff.mp ck_L_n_474)
theorem ck_L_d_475 : ∀ alt ∈ cq_L_475.2.2.2, rf_run nm_cl nm_ct en_xs 8 xx_L kc_L cu_L po_L (some .boolean) 1 0 98 16364 (some cq_L_475.2.2.1) 5000 true cq_L_475.1 alt = true := by
  have e1 : cq_L_475.2.2.2 = al_L_475 := by dsimp only [cq_L_475]
  have e2 : cq_L_475.2.2.1 = mu_L_475 := by dsimp only [cq_L_475]
  have e3 : cq_L_475.1 = 1421 := by dsimp only [cq_L_475]
  rw [e1, e2, e3]
  exact rf_pcs (l := al_L_475) 1 ck_L_c_475 (List.isEmpty_iff.mp ck_L_n_475)
theorem ck_L_d_476 : ∀ alt ∈ cq_L_476.2.2.2, rf_run nm_cl nm_ct en_xs 8 xx_L kc_L cu_L po_L (some .boolean) 1 0 98 16364 (some cq_L_476.2.2.1) 5000 true cq_L_476.1 alt = true := by
  have e1 : cq_L_476.2.2.2 = al_L_476 := by dsimp only [cq_L_476]
  have e2 : cq_L_476.2.2.1 = mu_L_476 := by dsimp only [cq_L_476]
  have e3 : cq_L_476.1 = 1421 := by dsimp only [cq_L_476]
  rw [e1, e2, e3]
  exact rf_pcs (l := al_L_476) 1 ck_L_c_476 (List.isEmpty_iff.mp ck_L_n_476)
theorem ck_L_d_477 : ∀ alt ∈ cq_L_477.2.2.2, rf_run nm_cl nm_ct en_xs 8 xx_L kc_L cu_L po_L (some .boolean) 1 0 98 16364 (some cq_L_477.2.2.1) 5000 true cq_L_477.1 alt = true := by
  have e1 : cq_L_477.2.2.2 = al_L_477 := by dsimp only [cq_L_477]
  have e2 : cq_L_477.2.2.1 = mu_L_477 := by dsimp only [cq_L_477]
  have e3 : cq_L_477.1 = 1425 := by dsimp only [cq_L_477]
  rw [e1, e2, e3]
  exact rf_pcs (l := al_L_477) 1 ck_L_c_477 (List.isEmpty_iff.mp ck_L_n_477)
theorem ck_L_d_478 : ∀ alt ∈ cq_L_478.2.2.2, rf_run nm_cl nm_ct en_xs 8 xx_L kc_L cu_L po_L (some .boolean) 1 0 98 16364 (some cq_L_478.2.2.1) 5000 true cq_L_478.1 alt = true := by
  have e1 : cq_L_478.2.2.2 = al_L_478 := by dsimp only [cq_L_478]
  have e2 : cq_L_478.2.2.1 = mu_L_478 := by dsimp only [cq_L_478]
  have e3 : cq_L_478.1 = 1458 := by dsimp only [cq_L_478]
  rw [e1, e2, e3]
  exact rf_pcs (l := al_L_478) 1 ck_L_c_478 (List.isEmpty_iff.mp ck_L_n_478)
set_option maxRecDepth 100000 in
theorem ck_L_b : ∀ cu ∈ cu_L, Nat.beq cu.2.2.1.length 4 = true ∧ ∀ alt ∈ cu.2.2.2, rf_run nm_cl nm_ct en_xs 8 xx_L kc_L cu_L po_L (some .boolean) 1 0 98 16364 (some cu.2.2.1) 5000 true cu.1 alt = true := List.forall_mem_cons.mpr ⟨⟨rfl, ck_L_d_0⟩, List.forall_mem_cons.mpr ⟨⟨rfl, ck_L_d_1⟩, List.forall_mem_cons.mpr ⟨⟨rfl, ck_L_d_2⟩, List.forall_mem_cons.mpr ⟨⟨rfl, ck_L_d_3⟩, List.forall_mem_cons.mpr ⟨⟨rfl, ck_L_d_4⟩, List.forall_mem_cons.mpr ⟨⟨rfl, ck_L_d_5⟩, List.forall_mem_cons.mpr ⟨⟨rfl, ck_L_d_6⟩, List.forall_mem_cons.mpr ⟨⟨rfl, ck_L_d_7⟩, List.forall_mem_cons.mpr ⟨⟨rfl, ck_L_d_8⟩, List.forall_mem_cons.mpr ⟨⟨rfl, ck_L_d_9⟩, List.forall_mem_cons.mpr ⟨⟨rfl, ck_L_d_10⟩, List.forall_mem_cons.mpr ⟨⟨rfl, ck_L_d_11⟩, List.forall_mem_cons.mpr ⟨⟨rfl, ck_L_d_12⟩, List.forall_mem_cons.mpr ⟨⟨rfl, ck_L_d_13⟩, List.forall_mem_cons.mpr ⟨⟨rfl, ck_L_d_14⟩, List.forall_mem_cons.mpr ⟨⟨rfl, ck_L_d_15⟩, List.forall_mem_cons.mpr ⟨⟨rfl, ck_L_d_16⟩, List.forall_mem_cons.mpr ⟨⟨rfl, ck_L_d_17⟩, List.forall_mem_cons.mpr ⟨⟨rfl, ck_L_d_18⟩, List.forall_mem_cons.mpr ⟨⟨rfl, ck_L_d_19⟩, List.forall_mem_cons.mpr ⟨⟨rfl, ck_L_d_20⟩, List.forall_mem_cons.mpr ⟨⟨rfl, ck_L_d_21⟩, List.forall_mem_cons.mpr ⟨⟨rfl, ck_L_d_22⟩, List.forall_mem_cons.mpr ⟨⟨rfl, ck_L_d_23⟩, List.forall_mem_cons.mpr ⟨⟨rfl, ck_L_d_24⟩, List.forall_mem_cons.mpr ⟨⟨rfl, ck_L_d_25⟩, List.forall_mem_cons.mpr ⟨⟨rfl, ck_L_d_26⟩, List.forall_mem_cons.mpr ⟨⟨rfl, ck_L_d_27⟩, List.forall_mem_cons.mpr ⟨⟨rfl, ck_L_d_28⟩, List.forall_mem_cons.mpr ⟨⟨rfl, ck_L_d_29⟩, List.forall_mem_cons.mpr ⟨⟨rfl, ck_L_d_30⟩, List.forall_mem_cons.mpr ⟨⟨rfl, ck_L_d_31⟩, List.forall_mem_cons.mpr ⟨⟨rfl, ck_L_d_32⟩, List.forall_mem_cons.mpr ⟨⟨rfl, ck_L_d_33⟩, List.forall_mem_cons.mpr ⟨⟨rfl, ck_L_d_34⟩, List.forall_mem_cons.mpr ⟨⟨rfl, ck_L_d_35⟩, List.forall_mem_cons.mpr ⟨⟨rfl, ck_L_d_36⟩, List.forall_mem_cons.mpr ⟨⟨rfl, ck_L_d_37⟩, List.forall_mem_cons.mpr ⟨⟨rfl, ck_L_d_38⟩, List.forall_mem_cons.mpr ⟨⟨rfl, ck_L_d_39⟩, List.forall_mem_cons.mpr ⟨⟨rfl, ck_L_d_40⟩, List.forall_mem_cons.mpr ⟨⟨rfl, ck_L_d_41⟩, List.forall_mem_cons.mpr ⟨⟨rfl, ck_L_d_42⟩, List.forall_mem_cons.mpr ⟨⟨rfl, ck_L_d_43⟩, List.forall_mem_cons.mpr ⟨⟨rfl, ck_L_d_44⟩, List.forall_mem_cons.mpr ⟨⟨rfl, ck_L_d_45⟩, List.forall_mem_cons.mpr ⟨⟨rfl, ck_L_d_46⟩, List.forall_mem_cons.mpr ⟨⟨rfl, ck_L_d_47⟩, List.forall_mem_cons.mpr ⟨⟨rfl, ck_L_d_48⟩, List.forall_mem_cons.mpr ⟨⟨rfl, ck_L_d_49⟩, List.forall_mem_cons.mpr ⟨⟨rfl, ck_L_d_50⟩, List.forall_mem_cons.mpr ⟨⟨rfl, ck_L_d_51⟩, List.forall_mem_cons.mpr ⟨⟨rfl, ck_L_d_52⟩, List.forall_mem_cons.mpr ⟨⟨rfl, ck_L_d_53⟩, List.forall_mem_cons.mpr ⟨⟨rfl, ck_L_d_54⟩, List.forall_mem_cons.mpr ⟨⟨rfl, ck_L_d_55⟩, List.forall_mem_cons.mpr ⟨⟨rfl, ck_L_d_56⟩, List.forall_mem_cons.mpr ⟨⟨rfl, ck_L_d_57⟩, List.forall_mem_cons.mpr ⟨⟨rfl, ck_L_d_58⟩, List.forall_mem_cons.mpr ⟨⟨rfl, ck_L_d_59⟩, List.forall_mem_cons.mpr ⟨⟨rfl, ck_L_d_60⟩, List.forall_mem_cons.mpr ⟨⟨rfl, ck_L_d_61⟩, List.forall_mem_cons.mpr ⟨⟨rfl, ck_L_d_62⟩, List.forall_mem_cons.mpr ⟨⟨rfl, ck_L_d_63⟩, List.forall_mem_cons.mpr ⟨⟨rfl, ck_L_d_64⟩, List.forall_mem_cons.mpr ⟨⟨rfl, ck_L_d_65⟩, List.forall_mem_cons.mpr ⟨⟨rfl, ck_L_d_66⟩, List.forall_mem_cons.mpr ⟨⟨rfl, ck_L_d_67⟩, List.forall_mem_cons.mpr ⟨⟨rfl, ck_L_d_68⟩, List.forall_mem_cons.mpr ⟨⟨rfl, ck_L_d_69⟩, List.forall_mem_cons.mpr ⟨⟨rfl, ck_L_d_70⟩, List.forall_mem_cons.mpr ⟨⟨rfl, ck_L_d_71⟩, List.forall_mem_cons.mpr ⟨⟨rfl, ck_L_d_72⟩, List.forall_mem_cons.mpr ⟨⟨rfl, ck_L_d_73⟩, List.forall_mem_cons.mpr ⟨⟨rfl, ck_L_d_74⟩, List.forall_mem_cons.mpr ⟨⟨rfl, ck_L_d_75⟩, List.forall_mem_cons.mpr ⟨⟨rfl, ck_L_d_76⟩, List.forall_mem_cons.mpr ⟨⟨rfl, ck_L_d_77⟩, List.forall_mem_cons.mpr ⟨⟨rfl, ck_L_d_78⟩, List.forall_mem_cons.mpr ⟨⟨rfl, ck_L_d_79⟩, List.forall_mem_cons.mpr ⟨⟨rfl, ck_L_d_80⟩, List.forall_mem_cons.mpr ⟨⟨rfl, ck_L_d_81⟩, List.forall_mem_cons.mpr ⟨⟨rfl, ck_L_d_82⟩, List.forall_mem_cons.mpr ⟨⟨rfl, ck_L_d_83⟩, List.forall_mem_cons.mpr ⟨⟨rfl, ck_L_d_84⟩, List.forall_mem_cons.mpr ⟨⟨rfl, ck_L_d_85⟩, List.forall_mem_cons.mpr ⟨⟨rfl, ck_L_d_86⟩, List.forall_mem_cons.mpr ⟨⟨rfl, ck_L_d_87⟩, List.forall_mem_cons.mpr ⟨⟨rfl, ck_L_d_88⟩, List.forall_mem_cons.mpr ⟨⟨rfl, ck_L_d_89⟩, List.forall_mem_cons.mpr ⟨⟨rfl, ck_L_d_90⟩, List.forall_mem_cons.mpr ⟨⟨rfl, ck_L_d_91⟩, List.forall_mem_cons.mpr ⟨⟨rfl, ck_L_d_92⟩, List.forall_mem_cons.mpr ⟨⟨rfl, ck_L_d_93⟩, List.forall_mem_cons.mpr ⟨⟨rfl, ck_L_d_94⟩, List.forall_mem_cons.mpr ⟨⟨rfl, ck_L_d_95⟩, List.forall_mem_cons.mpr ⟨⟨rfl, ck_L_d_96⟩, List.forall_mem_cons.mpr ⟨⟨rfl, ck_L_d_97⟩, List.forall_mem_cons.mpr ⟨⟨rfl, ck_L_d_98⟩, List.forall_mem_cons.mpr ⟨⟨rfl, ck_L_d_99⟩, List.forall_mem_cons.mpr ⟨⟨rfl, ck_L_d_100⟩, List.forall_mem_cons.mpr ⟨⟨rfl, ck_L_d_101⟩, List.forall_mem_cons.mpr ⟨⟨rfl, ck_L_d_102⟩, List.forall_mem_cons.mpr ⟨⟨rfl, ck_L_d_103⟩, List.forall_mem_cons.mpr ⟨⟨rfl, ck_L_d_104⟩, List.forall_mem_cons.mpr ⟨⟨rfl, ck_L_d_105⟩, List.forall_mem_cons.mpr ⟨⟨rfl, ck_L_d_106⟩, List.forall_mem_cons.mpr ⟨⟨rfl, ck_L_d_107⟩, List.forall_mem_cons.mpr ⟨⟨rfl, ck_L_d_108⟩, List.forall_mem_cons.mpr ⟨⟨rfl, ck_L_d_109⟩, List.forall_mem_cons.mpr ⟨⟨rfl, ck_L_d_110⟩, List.forall_mem_cons.mpr ⟨⟨rfl, ck_L_d_111⟩, List.forall_mem_cons.mpr ⟨⟨rfl, ck_L_d_112⟩, List.forall_mem_cons.mpr ⟨⟨rfl, ck_L_d_113⟩, List.forall_mem_cons.mpr ⟨⟨rfl, ck_L_d_114⟩, List.forall_mem_cons.mpr ⟨⟨rfl, ck_L_d_115⟩, List.forall_mem_cons.mpr ⟨⟨rfl, ck_L_d_116⟩, List.forall_mem_cons.mpr ⟨⟨rfl, ck_L_d_117⟩, List.forall_mem_cons.mpr ⟨⟨rfl, ck_L_d_118⟩, List.forall_mem_cons.mpr ⟨⟨rfl, ck_L_d_119⟩, List.forall_mem_cons.mpr ⟨⟨rfl, ck_L_d_120⟩, List.forall_mem_cons.mpr ⟨⟨rfl, ck_L_d_121⟩, List.forall_mem_cons.mpr ⟨⟨rfl, ck_L_d_122⟩, List.forall_mem_cons.mpr ⟨⟨rfl, ck_L_d_123⟩, List.forall_mem_cons.mpr ⟨⟨rfl, ck_L_d_124⟩, List.forall_mem_cons.mpr ⟨⟨rfl, ck_L_d_125⟩, List.forall_mem_cons.mpr ⟨⟨rfl, ck_L_d_126⟩, List.forall_mem_cons.mpr ⟨⟨rfl, ck_L_d_127⟩, List.forall_mem_cons.mpr ⟨⟨rfl, ck_L_d_128⟩, List.forall_mem_cons.mpr ⟨⟨rfl, ck_L_d_129⟩, List.forall_mem_cons.mpr ⟨⟨rfl, ck_L_d_130⟩, List.forall_mem_cons.mpr ⟨⟨rfl, ck_L_d_131⟩, List.forall_mem_cons.mpr ⟨⟨rfl, ck_L_d_132⟩, List.forall_mem_cons.mpr ⟨⟨rfl, ck_L_d_133⟩, List.forall_mem_cons.mpr ⟨⟨rfl, ck_L_d_134⟩, List.forall_mem_cons.mpr ⟨⟨rfl, ck_L_d_135⟩, List.forall_mem_cons.mpr ⟨⟨rfl, ck_L_d_136⟩, List.forall_mem_cons.mpr ⟨⟨rfl, ck_L_d_137⟩, List.forall_mem_cons.mpr ⟨⟨rfl, ck_L_d_138⟩, List.forall_mem_cons.mpr ⟨⟨rfl, ck_L_d_139⟩, List.forall_mem_cons.mpr ⟨⟨rfl, ck_L_d_140⟩, List.forall_mem_cons.mpr ⟨⟨rfl, ck_L_d_141⟩, List.forall_mem_cons.mpr ⟨⟨rfl, ck_L_d_142⟩, List.forall_mem_cons.mpr ⟨⟨rfl, ck_L_d_143⟩, List.forall_mem_cons.mpr ⟨⟨rfl, ck_L_d_144⟩, List.forall_mem_cons.mpr ⟨⟨rfl, ck_L_d_145⟩, List.forall_mem_cons.mpr ⟨⟨rfl, ck_L_d_146⟩, List.forall_mem_cons.mpr ⟨⟨rfl, ck_L_d_147⟩, List.forall_mem_cons.mpr ⟨⟨rfl, ck_L_d_148⟩, List.forall_mem_cons.mpr ⟨⟨rfl, ck_L_d_149⟩, List.forall_mem_cons.mpr ⟨⟨rfl, ck_L_d_150⟩, List.forall_mem_cons.mpr ⟨⟨rfl, ck_L_d_151⟩, List.forall_mem_cons.mpr ⟨⟨rfl, ck_L_d_152⟩, List.forall_mem_cons.mpr ⟨⟨rfl, ck_L_d_153⟩, List.forall_mem_cons.mpr ⟨⟨rfl, ck_L_d_154⟩, List.forall_mem_cons.mpr ⟨⟨rfl, ck_L_d_155⟩, List.forall_mem_cons.mpr ⟨⟨rfl, ck_L_d_156⟩, List.forall_mem_cons.mpr ⟨⟨rfl, ck_L_d_157⟩, List.forall_mem_cons.mpr ⟨⟨rfl, ck_L_d_158⟩, List.forall_mem_cons.mpr ⟨⟨rfl, ck_L_d_159⟩, List.forall_mem_cons.mpr ⟨⟨rfl, ck_L_d_160⟩, List.forall_mem_cons.mpr ⟨⟨rfl, ck_L_d_161⟩, List.forall_mem_cons.mpr ⟨⟨rfl, ck_L_d_162⟩, List.forall_mem_cons.mpr ⟨⟨rfl, ck_L_d_163⟩, List.forall_mem_cons.mpr ⟨⟨rfl, ck_L_d_164⟩, List.forall_mem_cons.mpr ⟨⟨rfl, ck_L_d_165⟩, List.forall_mem_cons.mpr ⟨⟨rfl, ck_L_d_166⟩, List.forall_mem_cons.mpr ⟨⟨rfl, ck_L_d_167⟩, List.forall_mem_cons.mpr ⟨⟨rfl, ck_L_d_168⟩, List.forall_mem_cons.mpr ⟨⟨rfl, ck_L_d_169⟩, List.forall_mem_cons.mpr ⟨⟨rfl, ck_L_d_170⟩, List.forall_mem_cons.mpr ⟨⟨rfl, ck_L_d_171⟩, List.forall_mem_cons.mpr ⟨⟨rfl, ck_L_d_172⟩, List.forall_mem_cons.mpr ⟨⟨rfl, ck_L_d_173⟩, List.forall_mem_cons.mpr ⟨⟨rfl, ck_L_d_174⟩, List.forall_mem_cons.mpr ⟨⟨rfl, ck_L_d_175⟩, List.forall_mem_cons.mpr ⟨⟨rfl, ck_L_d_176⟩, List.forall_mem_cons.mpr ⟨⟨rfl, ck_L_d_177⟩, List.forall_mem_cons.mpr ⟨⟨rfl, ck_L_d_178⟩, List.forall_mem_cons.mpr ⟨⟨rfl, ck_L_d_179⟩, List.forall_mem_cons.mpr ⟨⟨rfl, ck_L_d_180⟩, List.forall_mem_cons.mpr ⟨⟨rfl, ck_L_d_181⟩, List.forall_mem_cons.mpr ⟨⟨rfl, ck_L_d_182⟩, List.forall_mem_cons.mpr ⟨⟨rfl, ck_L_d_183⟩, List.forall_mem_cons.mpr ⟨⟨rfl, ck_L_d_184⟩, List.forall_mem_cons.mpr ⟨⟨rfl, ck_L_d_185⟩, List.forall_mem_cons.mpr ⟨⟨rfl, ck_L_d_186⟩, List.forall_mem_cons.mpr ⟨⟨rfl, ck_L_d_187⟩, List.forall_mem_cons.mpr ⟨⟨rfl, ck_L_d_188⟩, List.forall_mem_cons.mpr ⟨⟨rfl, ck_L_d_189⟩, List.forall_mem_cons.mpr ⟨⟨rfl, ck_L_d_190⟩, List.forall_mem_cons.mpr ⟨⟨rfl, ck_L_d_191⟩, List.forall_mem_cons.mpr ⟨⟨rfl, ck_L_d_192⟩, List.forall_mem_cons.mpr ⟨⟨rfl, ck_L_d_193⟩, List.forall_mem_cons.mpr ⟨⟨rfl, ck_L_d_194⟩, List.forall_mem_cons.mpr ⟨⟨rfl, ck_L_d_195⟩, List.forall_mem_cons.mpr ⟨⟨rfl, ck_L_d_196⟩, List.forall_mem_cons.mpr ⟨⟨rfl, ck_L_d_197⟩, List.forall_mem_cons.mpr ⟨⟨rfl, ck_L_d_198⟩, List.forall_mem_cons.mpr ⟨⟨rfl, ck_L_d_199⟩, List.forall_mem_cons.mpr ⟨⟨rfl, ck_L_d_200⟩, List.forall_mem_cons.mpr ⟨⟨rfl, ck_L_d_201⟩, List.forall_mem_cons.mpr ⟨⟨rfl, ck_L_d_202⟩, List.forall_mem_cons.mpr ⟨⟨rfl, ck_L_d_203⟩, List.forall_mem_cons.mpr ⟨⟨rfl, ck_L_d_204⟩, List.forall_mem_cons.mpr ⟨⟨rfl, ck_L_d_205⟩, List.forall_mem_cons.mpr ⟨⟨rfl, ck_L_d_206⟩, List.forall_mem_cons.mpr ⟨⟨rfl, ck_L_d_207⟩, List.forall_mem_cons.mpr ⟨⟨rfl, ck_L_d_208⟩, List.forall_mem_cons.mpr ⟨⟨rfl, ck_L_d_209⟩, List.forall_mem_cons.mpr ⟨⟨rfl, ck_L_d_210⟩, List.forall_mem_cons.mpr ⟨⟨rfl, ck_L_d_211⟩, List.forall_mem_cons.mpr ⟨⟨rfl, ck_L_d_212⟩, List.forall_mem_cons.mpr ⟨⟨rfl, ck_L_d_213⟩, List.forall_mem_cons.mpr ⟨⟨rfl, ck_L_d_214⟩, List.forall_mem_cons.mpr ⟨⟨rfl, ck_L_d_215⟩, List.forall_mem_cons.mpr ⟨⟨rfl, ck_L_d_216⟩, List.forall_mem_cons.mpr ⟨⟨rfl, ck_L_d_217⟩, List.forall_mem_cons.mpr ⟨⟨rfl, ck_L_d_218⟩, List.forall_mem_cons.mpr ⟨⟨rfl, ck_L_d_219⟩, List.forall_mem_cons.mpr ⟨⟨rfl, ck_L_d_220⟩, List.forall_mem_cons.mpr ⟨⟨rfl, ck_L_d_221⟩, List.forall_mem_cons.mpr ⟨⟨rfl, ck_L_d_222⟩, List.forall_mem_cons.mpr ⟨⟨rfl, ck_L_d_223⟩, List.forall_mem_cons.mpr ⟨⟨rfl, ck_L_d_224⟩, List.forall_mem_cons.mpr ⟨⟨rfl, ck_L_d_225⟩, List.forall_mem_cons.mpr ⟨⟨rfl, ck_L_d_226⟩, List.forall_mem_cons.mpr ⟨⟨rfl, ck_L_d_227⟩, List.forall_mem_cons.mpr ⟨⟨rfl, ck_L_d_228⟩, List.forall_mem_cons.mpr ⟨⟨rfl, ck_L_d_229⟩, List.forall_mem_cons.mpr ⟨⟨rfl, ck_L_d_230⟩, List.forall_mem_cons.mpr ⟨⟨rfl, ck_L_d_231⟩, List.forall_mem_cons.mpr ⟨⟨rfl, ck_L_d_232⟩, List.forall_mem_cons.mpr ⟨⟨rfl, ck_L_d_233⟩, List.forall_mem_cons.mpr ⟨⟨rfl, ck_L_d_234⟩, List.forall_mem_cons.mpr ⟨⟨rfl, ck_L_d_235⟩, List.forall_mem_cons.mpr ⟨⟨rfl, ck_L_d_236⟩, List.forall_mem_cons.mpr ⟨⟨rfl, ck_L_d_237⟩, List.forall_mem_cons.mpr ⟨⟨rfl, ck_L_d_238⟩, List.forall_mem_cons.mpr ⟨⟨rfl, ck_L_d_239⟩, List.forall_mem_cons.mpr ⟨⟨rfl, ck_L_d_240⟩, List.forall_mem_cons.mpr ⟨⟨rfl, ck_L_d_241⟩, List.forall_mem_cons.mpr ⟨⟨rfl, ck_L_d_242⟩, List.forall_mem_cons.mpr ⟨⟨rfl, ck_L_d_243⟩, List.forall_mem_cons.mpr ⟨⟨rfl, ck_L_d_244⟩, List.forall_mem_cons.mpr ⟨⟨rfl, ck_L_d_245⟩, List.forall_mem_cons.mpr ⟨⟨rfl, ck_L_d_246⟩, List.forall_mem_cons.mpr ⟨⟨rfl, ck_L_d_247⟩, List.forall_mem_cons.mpr ⟨⟨rfl, ck_L_d_248⟩, List.forall_mem_cons.mpr ⟨⟨rfl, ck_L_d_249⟩, List.forall_mem_cons.mpr ⟨⟨rfl, ck_L_d_250⟩, List.forall_mem_cons.mpr ⟨⟨rfl, ck_L_d_251⟩, List.forall_mem_cons.mpr ⟨⟨rfl, ck_L_d_252⟩, List.forall_mem_cons.mpr ⟨⟨rfl, ck_L_d_253⟩, List.forall_mem_cons.mpr ⟨⟨rfl, ck_L_d_254⟩, List.forall_mem_cons.mpr ⟨⟨rfl, ck_L_d_255⟩, List.forall_mem_cons.mpr ⟨⟨rfl, ck_L_d_256⟩, List.forall_mem_cons.mpr ⟨⟨rfl, ck_L_d_257⟩, List.forall_mem_cons.mpr ⟨⟨rfl, ck_L_d_258⟩, List.forall_mem_cons.mpr ⟨⟨rfl, ck_L_d_259⟩, List.forall_mem_cons.mpr ⟨⟨rfl, ck_L_d_260⟩, List.forall_mem_cons.mpr ⟨⟨rfl, ck_L_d_261⟩, List.forall_mem_cons.mpr ⟨⟨rfl, ck_L_d_262⟩, List.forall_mem_cons.mpr ⟨⟨rfl, ck_L_d_263⟩, List.forall_mem_cons.mpr ⟨⟨rfl, ck_L_d_264⟩, List.forall_mem_cons.mpr ⟨⟨rfl, ck_L_d_265⟩, List.forall_mem_cons.mpr ⟨⟨rfl, ck_L_d_266⟩, List.forall_mem_cons.mpr ⟨⟨rfl, ck_L_d_267⟩, List.forall_mem_cons.mpr ⟨⟨rfl, ck_L_d_268⟩, List.forall_mem_cons.mpr ⟨⟨rfl, ck_L_d_269⟩, List.forall_mem_cons.mpr ⟨⟨rfl, ck_L_d_270⟩, List.forall_mem_cons.mpr ⟨⟨rfl, ck_L_d_271⟩, List.forall_mem_cons.mpr ⟨⟨rfl, ck_L_d_272⟩, List.forall_mem_cons.mpr ⟨⟨rfl, ck_L_d_273⟩, List.forall_mem_cons.mpr ⟨⟨rfl, ck_L_d_274⟩, List.forall_mem_cons.mpr ⟨⟨rfl, ck_L_d_275⟩, List.forall_mem_cons.mpr ⟨⟨rfl, ck_L_d_276⟩, List.forall_mem_cons.mpr ⟨⟨rfl, ck_L_d_277⟩, List.forall_mem_cons.mpr ⟨⟨rfl, ck_L_d_278⟩, List.forall_mem_cons.mpr ⟨⟨rfl, ck_L_d_279⟩, List.forall_mem_cons.mpr ⟨⟨rfl, ck_L_d_280⟩, List.forall_mem_cons.mpr ⟨⟨rfl, ck_L_d_281⟩, List.forall_mem_cons.mpr ⟨⟨rfl, ck_L_d_282⟩, List.forall_mem_cons.mpr ⟨⟨rfl, ck_L_d_283⟩, List.forall_mem_cons.mpr ⟨⟨rfl, ck_L_d_284⟩, List.forall_mem_cons.mpr ⟨⟨rfl, ck_L_d_285⟩, List.forall_mem_cons.mpr ⟨⟨rfl, ck_L_d_286⟩, List.forall_mem_cons.mpr ⟨⟨rfl, ck_L_d_287⟩, List.forall_mem_cons.mpr ⟨⟨rfl, ck_L_d_288⟩, List.forall_mem_cons.mpr ⟨⟨rfl, ck_L_d_289⟩, List.forall_mem_cons.mpr ⟨⟨rfl, ck_L_d_290⟩, List.forall_mem_cons.mpr ⟨⟨rfl, ck_L_d_291⟩, List.forall_mem_cons.mpr ⟨⟨rfl, ck_L_d_292⟩, List.forall_mem_cons.mpr ⟨⟨rfl, ck_L_d_293⟩, List.forall_mem_cons.mpr ⟨⟨rfl, ck_L_d_294⟩, List.forall_mem_cons.mpr ⟨⟨rfl, ck_L_d_295⟩, List.forall_mem_cons.mpr ⟨⟨rfl, ck_L_d_296⟩, List.forall_mem_cons.mpr ⟨⟨rfl, ck_L_d_297⟩, List.forall_mem_cons.mpr ⟨⟨rfl, ck_L_d_298⟩, List.forall_mem_cons.mpr ⟨⟨rfl, ck_L_d_299⟩, List.forall_mem_cons.mpr ⟨⟨rfl, ck_L_d_300⟩, List.forall_mem_cons.mpr ⟨⟨rfl, ck_L_d_301⟩, List.forall_mem_cons.mpr ⟨⟨rfl, ck_L_d_302⟩, List.forall_mem_cons.mpr ⟨⟨rfl, ck_L_d_303⟩, List.forall_mem_cons.mpr ⟨⟨rfl, ck_L_d_304⟩, List.forall_mem_cons.mpr ⟨⟨rfl, ck_L_d_305⟩, List.forall_mem_cons.mpr ⟨⟨rfl, ck_L_d_306⟩, List.forall_mem_cons.mpr ⟨⟨rfl, ck_L_d_307⟩, List.forall_mem_cons.mpr ⟨⟨rfl, ck_L_d_308⟩, List.forall_mem_cons.mpr ⟨⟨rfl, ck_L_d_309⟩, List.forall_mem_cons.mpr ⟨⟨rfl, ck_L_d_310⟩, List.forall_mem_cons.mpr ⟨⟨rfl, ck_L_d_311⟩, List.forall_mem_cons.mpr ⟨⟨rfl, ck_L_d_312⟩, List.forall_mem_cons.mpr ⟨⟨rfl, ck_L_d_313⟩, List.forall_mem_cons.mpr ⟨⟨rfl, ck_L_d_314⟩, List.forall_mem_cons.mpr ⟨⟨rfl, ck_L_d_315⟩, List.forall_mem_cons.mpr ⟨⟨rfl, ck_L_d_316⟩, List.forall_mem_cons.mpr ⟨⟨rfl, ck_L_d_317⟩, List.forall_mem_cons.mpr ⟨⟨rfl, ck_L_d_318⟩, List.forall_mem_cons.mpr ⟨⟨rfl, ck_L_d_319⟩, List.forall_mem_cons.mpr ⟨⟨rfl, ck_L_d_320⟩, List.forall_mem_cons.mpr ⟨⟨rfl, ck_L_d_321⟩, List.forall_mem_cons.mpr ⟨⟨rfl, ck_L_d_322⟩, List.forall_mem_cons.mpr ⟨⟨rfl, ck_L_d_323⟩, List.forall_mem_cons.mpr ⟨⟨rfl, ck_L_d_324⟩, List.forall_mem_cons.mpr ⟨⟨rfl, ck_L_d_325⟩, List.forall_mem_cons.mpr ⟨⟨rfl, ck_L_d_326⟩, List.forall_mem_cons.mpr ⟨⟨rfl, ck_L_d_327⟩, List.forall_mem_cons.mpr ⟨⟨rfl, ck_L_d_328⟩, List.forall_mem_cons.mpr ⟨⟨rfl, ck_L_d_329⟩, List.forall_mem_cons.mpr ⟨⟨rfl, ck_L_d_330⟩, List.forall_mem_cons.mpr ⟨⟨rfl, ck_L_d_331⟩, List.forall_mem_cons.mpr ⟨⟨rfl, ck_L_d_332⟩, List.forall_mem_cons.mpr ⟨⟨rfl, ck_L_d_333⟩, List.forall_mem_cons.mpr ⟨⟨rfl, ck_L_d_334⟩, List.forall_mem_cons.mpr ⟨⟨rfl, ck_L_d_335⟩, List.forall_mem_cons.mpr ⟨⟨rfl, ck_L_d_336⟩, List.forall_mem_cons.mpr ⟨⟨rfl, ck_L_d_337⟩, List.forall_mem_cons.mpr ⟨⟨rfl, ck_L_d_338⟩, List.forall_mem_cons.mpr ⟨⟨rfl, ck_L_d_339⟩, List.forall_mem_cons.mpr ⟨⟨rfl, ck_L_d_340⟩, List.forall_mem_cons.mpr ⟨⟨rfl, ck_L_d_341⟩, List.forall_mem_cons.mpr ⟨⟨rfl, ck_L_d_342⟩, List.forall_mem_cons.mpr ⟨⟨rfl, ck_L_d_343⟩, List.forall_mem_cons.mpr ⟨⟨rfl, ck_L_d_344⟩, List.forall_mem_cons.mpr ⟨⟨rfl, ck_L_d_345⟩, List.forall_mem_cons.mpr ⟨⟨rfl, ck_L_d_346⟩, List.forall_mem_cons.mpr ⟨⟨rfl, ck_L_d_347⟩, List.forall_mem_cons.mpr ⟨⟨rfl, ck_L_d_348⟩, List.forall_mem_cons.mpr ⟨⟨rfl, ck_L_d_349⟩, List.forall_mem_cons.mpr ⟨⟨rfl, ck_L_d_350⟩, List.forall_mem_cons.mpr ⟨⟨rfl, ck_L_d_351⟩, List.forall_mem_cons.mpr ⟨⟨rfl, ck_L_d_352⟩, List.forall_mem_cons.mpr ⟨⟨rfl, ck_L_d_353⟩, List.forall_mem_cons.mpr ⟨⟨rfl, ck_L_d_354⟩, List.forall_mem_cons.mpr ⟨⟨rfl, ck_L_d_355⟩, List.forall_mem_cons.mpr ⟨⟨rfl, ck_L_d_356⟩, List.forall_mem_cons.mpr ⟨⟨rfl, ck_L_d_357⟩, List.forall_mem_cons.mpr ⟨⟨rfl, ck_L_d_358⟩, List.forall_mem_cons.mpr ⟨⟨rfl, ck_L_d_359⟩, List.forall_mem_cons.mpr ⟨⟨rfl, ck_L_d_360⟩, List.forall_mem_cons.mpr ⟨⟨rfl, ck_L_d_361⟩, List.forall_mem_cons.mpr ⟨⟨rfl, ck_L_d_362⟩, List.forall_mem_cons.mpr ⟨⟨rfl, ck_L_d_363⟩, List.forall_mem_cons.mpr ⟨⟨rfl, ck_L_d_364⟩, List.forall_mem_cons.mpr ⟨⟨rfl, ck_L_d_365⟩, List.forall_mem_cons.mpr ⟨⟨rfl, ck_L_d_366⟩, List.forall_mem_cons.mpr ⟨⟨rfl, ck_L_d_367⟩, List.forall_mem_cons.mpr ⟨⟨rfl, ck_L_d_368⟩, List.forall_mem_cons.mpr ⟨⟨rfl, ck_L_d_369⟩, List.forall_mem_cons.mpr ⟨⟨rfl, ck_L_d_370⟩, List.forall_mem_cons.mpr ⟨⟨rfl, ck_L_d_371⟩, List.forall_mem_cons.mpr ⟨⟨rfl, ck_L_d_372⟩, List.forall_mem_cons.mpr ⟨⟨rfl, ck_L_d_373⟩, List.forall_mem_cons.mpr ⟨⟨rfl, ck_L_d_374⟩, List.forall_mem_cons.mpr ⟨⟨rfl, ck_L_d_375⟩, List.forall_mem_cons.mpr ⟨⟨rfl, ck_L_d_376⟩, List.forall_mem_cons.mpr ⟨⟨rfl, ck_L_d_377⟩, List.forall_mem_cons.mpr ⟨⟨rfl, ck_L_d_378⟩, List.forall_mem_cons.mpr ⟨⟨rfl, ck_L_d_379⟩, List.forall_mem_cons.mpr ⟨⟨rfl, ck_L_d_380⟩, List.forall_mem_cons.mpr ⟨⟨rfl, ck_L_d_381⟩, List.forall_mem_cons.mpr ⟨⟨rfl, ck_L_d_382⟩, List.forall_mem_cons.mpr ⟨⟨rfl, ck_L_d_383⟩, List.forall_mem_cons.mpr ⟨⟨rfl, ck_L_d_384⟩, List.forall_mem_cons.mpr ⟨⟨rfl, ck_L_d_385⟩, List.forall_mem_cons.mpr ⟨⟨rfl, ck_L_d_386⟩, List.forall_mem_cons.mpr ⟨⟨rfl, ck_L_d_387⟩, List.forall_mem_cons.mpr ⟨⟨rfl, ck_L_d_388⟩, List.forall_mem_cons.mpr ⟨⟨rfl, ck_L_d_389⟩, List.forall_mem_cons.mpr ⟨⟨rfl, ck_L_d_390⟩, List.forall_mem_cons.mpr ⟨⟨rfl, ck_L_d_391⟩, List.forall_mem_cons.mpr ⟨⟨rfl, ck_L_d_392⟩, List.forall_mem_cons.mpr ⟨⟨rfl, ck_L_d_393⟩, List.forall_mem_cons.mpr ⟨⟨rfl, ck_L_d_394⟩, List.forall_mem_cons.mpr ⟨⟨rfl, ck_L_d_395⟩, List.forall_mem_cons.mpr ⟨⟨rfl, ck_L_d_396⟩, List.forall_mem_cons.mpr ⟨⟨rfl, ck_L_d_397⟩, List.forall_mem_cons.mpr ⟨⟨rfl, ck_L_d_398⟩, List.forall_mem_cons.mpr ⟨⟨rfl, ck_L_d_399⟩, List.forall_mem_cons.mpr ⟨⟨rfl, ck_L_d_400⟩, List.forall_mem_cons.mpr ⟨⟨rfl, ck_L_d_401⟩, List.forall_mem_cons.mpr ⟨⟨rfl, ck_L_d_402⟩, List.forall_mem_cons.mpr ⟨⟨rfl, ck_L_d_403⟩, List.forall_mem_cons.mpr ⟨⟨rfl, ck_L_d_404⟩, List.forall_mem_cons.mpr ⟨⟨rfl, ck_L_d_405⟩, List.forall_mem_cons.mpr ⟨⟨rfl, ck_L_d_406⟩, List.forall_mem_cons.mpr ⟨⟨rfl, ck_L_d_407⟩, List.forall_mem_cons.mpr ⟨⟨rfl, ck_L_d_408⟩, List.forall_mem_cons.mpr ⟨⟨rfl, ck_L_d_409⟩, List.forall_mem_cons.mpr ⟨⟨rfl, ck_L_d_410⟩, List.forall_mem_cons.mpr ⟨⟨rfl, ck_L_d_411⟩, List.forall_mem_cons.mpr ⟨⟨rfl, ck_L_d_412⟩, List.forall_mem_cons.mpr ⟨⟨rfl, ck_L_d_413⟩, List.forall_mem_cons.mpr ⟨⟨rfl, ck_L_d_414⟩, List.forall_mem_cons.mpr ⟨⟨rfl, ck_L_d_415⟩, List.forall_mem_cons.mpr ⟨⟨rfl, ck_L_d_416⟩, List.forall_mem_cons.mpr ⟨⟨rfl, ck_L_d_417⟩, List.forall_mem_cons.mpr ⟨⟨rfl, ck_L_d_418⟩, List.forall_mem_cons.mpr ⟨⟨rfl, ck_L_d_419⟩, List.forall_mem_cons.mpr ⟨⟨rfl, ck_L_d_420⟩, List.forall_mem_cons.mpr ⟨⟨rfl, ck_L_d_421⟩, List.forall_mem_cons.mpr ⟨⟨rfl, ck_L_d_422⟩, List.forall_mem_cons.mpr ⟨⟨rfl, ck_L_d_423⟩, List.forall_mem_cons.mpr ⟨⟨rfl, ck_L_d_424⟩, List.forall_mem_cons.mpr ⟨⟨rfl, ck_L_d_425⟩, List.forall_mem_cons.mpr ⟨⟨rfl, ck_L_d_426⟩, List.forall_mem_cons.mpr ⟨⟨rfl, ck_L_d_427⟩, List.forall_mem_cons.mpr ⟨⟨rfl, ck_L_d_428⟩, List.forall_mem_cons.mpr ⟨⟨rfl, ck_L_d_429⟩, List.forall_mem_cons.mpr ⟨⟨rfl, ck_L_d_430⟩, List.forall_mem_cons.mpr ⟨⟨rfl, ck_L_d_431⟩, List.forall_mem_cons.mpr ⟨⟨rfl, ck_L_d_432⟩, List.forall_mem_cons.mpr ⟨⟨rfl, ck_L_d_433⟩, List.forall_mem_cons.mpr ⟨⟨rfl, ck_L_d_434⟩, List.forall_mem_cons.mpr ⟨⟨rfl, ck_L_d_435⟩, List.forall_mem_cons.mpr ⟨⟨rfl, ck_L_d_436⟩, List.forall_mem_cons.mpr ⟨⟨rfl, ck_L_d_437⟩, List.forall_mem_cons.mpr ⟨⟨rfl, ck_L_d_438⟩, List.forall_mem_cons.mpr ⟨⟨rfl, ck_L_d_439⟩, List.forall_mem_cons.mpr ⟨⟨rfl, ck_L_d_440⟩, List.forall_mem_cons.mpr ⟨⟨rfl, ck_L_d_441⟩, List.forall_mem_cons.mpr ⟨⟨rfl, ck_L_d_442⟩, List.forall_mem_cons.mpr ⟨⟨rfl, ck_L_d_443⟩, List.forall_mem_cons.mpr ⟨⟨rfl, ck_L_d_444⟩, List.forall_mem_cons.mpr ⟨⟨rfl, ck_L_d_445⟩, List.forall_mem_cons.mpr ⟨⟨rfl, ck_L_d_446⟩, List.forall_mem_cons.mpr ⟨⟨rfl, ck_L_d_447⟩, List.forall_mem_cons.mpr ⟨⟨rfl, ck_L_d_448⟩, List.forall_mem_cons.mpr ⟨⟨rfl, ck_L_d_449⟩, List.forall_mem_cons.mpr ⟨⟨rfl, ck_L_d_450⟩, List.forall_mem_cons.mpr ⟨⟨rfl, ck_L_d_451⟩, List.forall_mem_cons.mpr ⟨⟨rfl, ck_L_d_452⟩, List.forall_mem_cons.mpr ⟨⟨rfl, ck_L_d_453⟩, List.forall_mem_cons.mpr ⟨⟨rfl, ck_L_d_454⟩, List.forall_mem_cons.mpr ⟨⟨rfl, ck_L_d_455⟩, List.forall_mem_cons.mpr ⟨⟨rfl, ck_L_d_456⟩, List.forall_mem_cons.mpr ⟨⟨rfl, ck_L_d_457⟩, List.forall_mem_cons.mpr ⟨⟨rfl, ck_L_d_458⟩, List.forall_mem_cons.mpr ⟨⟨rfl, ck_L_d_459⟩, List.forall_mem_cons.mpr ⟨⟨rfl, ck_L_d_460⟩, List.forall_mem_cons.mpr ⟨⟨rfl, ck_L_d_461⟩, List.forall_mem_cons.mpr ⟨⟨rfl, ck_L_d_462⟩, List.forall_mem_cons.mpr ⟨⟨rfl, ck_L_d_463⟩, List.forall_mem_cons.mpr ⟨⟨rfl, ck_L_d_464⟩, List.forall_mem_cons.mpr ⟨⟨rfl, ck_L_d_465⟩, List.forall_mem_cons.mpr ⟨⟨rfl, ck_L_d_466⟩, List.forall_mem_cons.mpr ⟨⟨rfl, ck_L_d_467⟩, List.forall_mem_cons.mpr ⟨⟨rfl, ck_L_d_468⟩, List.forall_mem_cons.mpr ⟨⟨rfl, ck_L_d_469⟩, List.forall_mem_cons.mpr ⟨⟨rfl, ck_L_d_470⟩, List.forall_mem_cons.mpr ⟨⟨rfl, ck_L_d_471⟩, List.forall_mem_cons.mpr ⟨⟨rfl, ck_L_d_472⟩, List.forall_mem_cons.mpr ⟨⟨rfl, ck_L_d_473⟩, List.forall_mem_cons.mpr ⟨⟨rfl, ck_L_d_474⟩, List.forall_mem_cons.mpr ⟨⟨rfl, ck_L_d_475⟩, List.forall_mem_cons.mpr ⟨⟨rfl, ck_L_d_476⟩, List.forall_mem_cons.mpr ⟨⟨rfl, ck_L_d_477⟩, List.forall_mem_cons.mpr ⟨⟨rfl, ck_L_d_478⟩, (fun _ h => absurd h List.not_mem_nil)⟩⟩⟩⟩⟩⟩⟩⟩⟩⟩⟩⟩⟩⟩⟩⟩⟩⟩⟩⟩⟩⟩⟩⟩⟩⟩⟩⟩⟩⟩⟩⟩⟩⟩⟩⟩⟩⟩⟩⟩⟩⟩⟩⟩⟩⟩⟩⟩⟩⟩⟩⟩⟩⟩⟩⟩⟩⟩⟩⟩⟩⟩⟩⟩⟩⟩⟩⟩⟩⟩⟩⟩⟩⟩⟩⟩⟩⟩⟩⟩⟩⟩⟩⟩⟩⟩⟩⟩⟩⟩⟩⟩⟩⟩⟩⟩⟩⟩⟩⟩⟩⟩⟩⟩⟩⟩⟩⟩⟩⟩⟩⟩⟩⟩⟩⟩⟩⟩⟩⟩⟩⟩⟩⟩⟩⟩⟩⟩⟩⟩⟩⟩⟩⟩⟩⟩⟩⟩⟩⟩⟩⟩⟩⟩⟩⟩⟩⟩⟩⟩⟩⟩⟩⟩⟩⟩⟩⟩⟩⟩⟩⟩⟩⟩⟩⟩⟩⟩⟩⟩⟩⟩⟩⟩⟩⟩⟩⟩⟩⟩⟩⟩⟩⟩⟩⟩⟩⟩⟩⟩⟩⟩⟩⟩⟩⟩⟩⟩⟩⟩⟩⟩⟩⟩⟩⟩⟩⟩⟩⟩⟩⟩⟩⟩⟩⟩⟩⟩⟩⟩⟩⟩⟩⟩⟩⟩⟩⟩⟩⟩⟩⟩⟩⟩⟩⟩⟩⟩⟩⟩⟩⟩⟩⟩⟩⟩⟩⟩⟩⟩⟩⟩⟩⟩⟩⟩⟩⟩⟩⟩⟩⟩⟩⟩⟩⟩⟩⟩⟩⟩⟩⟩⟩⟩⟩⟩⟩⟩⟩⟩⟩⟩⟩⟩⟩⟩⟩⟩⟩⟩⟩⟩⟩⟩⟩⟩⟩⟩⟩⟩⟩⟩⟩⟩⟩⟩⟩⟩⟩⟩⟩⟩⟩⟩⟩⟩⟩⟩⟩⟩⟩⟩⟩⟩⟩⟩⟩⟩⟩⟩⟩⟩⟩⟩⟩⟩⟩⟩⟩⟩⟩⟩⟩⟩⟩⟩⟩⟩⟩⟩⟩⟩⟩⟩⟩⟩⟩⟩⟩⟩⟩⟩⟩⟩⟩⟩⟩⟩⟩⟩⟩⟩⟩⟩⟩⟩⟩⟩⟩⟩⟩⟩⟩⟩⟩⟩⟩⟩⟩⟩⟩⟩⟩⟩⟩⟩⟩⟩⟩⟩⟩⟩⟩⟩⟩⟩⟩⟩⟩⟩⟩⟩⟩⟩⟩⟩⟩⟩⟩⟩⟩⟩⟩⟩⟩⟩⟩⟩⟩⟩⟩⟩⟩⟩⟩⟩⟩⟩⟩⟩⟩⟩⟩⟩⟩⟩⟩⟩⟩⟩⟩⟩⟩⟩⟩⟩⟩⟩⟩⟩⟩⟩⟩⟩⟩⟩⟩⟩⟩⟩⟩⟩⟩⟩⟩⟩⟩⟩⟩
set_option maxRecDepth 100000 in
theorem ln_L : rf_lens kc_L = true := by decide +kernel
