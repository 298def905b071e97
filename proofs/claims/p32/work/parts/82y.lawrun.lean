/-! the law: its checks, together -/
set_option maxRecDepth 100000 in
theorem ah_L_0 : rf_ALT cq_L_0 := rf_alt_self rfl
set_option maxRecDepth 100000 in
theorem ah_L_1 : rf_ALT cq_L_1 := rf_alt_self rfl
set_option maxRecDepth 100000 in
theorem ah_L_2 : rf_ALT cq_L_2 := rf_alt_self rfl
set_option maxRecDepth 100000 in
theorem ah_L_3 : rf_ALT cq_L_3 := rf_alt_self rfl
set_option maxRecDepth 100000 in
theorem ah_L_4 : rf_ALT cq_L_4 := rf_alt_self rfl
set_option maxRecDepth 100000 in
theorem ah_L_5 : rf_ALT cq_L_5 := rf_alt_self rfl
set_option maxRecDepth 100000 in
theorem ah_L_6 : rf_ALT cq_L_6 := rf_alt_self rfl
set_option maxRecDepth 100000 in
theorem ah_L_7 : rf_ALT cq_L_7 := rf_alt_self rfl
set_option maxRecDepth 100000 in
theorem ah_L_8 : rf_ALT cq_L_8 := rf_alt_self rfl
set_option maxRecDepth 100000 in
theorem ah_L_9 : rf_ALT cq_L_9 := rf_alt_self rfl
set_option maxRecDepth 100000 in
theorem ah_L_10 : rf_ALT cq_L_10 := rf_alt_self rfl
set_option maxRecDepth 100000 in
theorem ah_L_11 : rf_ALT cq_L_11 := rf_alt_self rfl
set_option maxRecDepth 100000 in
theorem ah_L_12 : rf_ALT cq_L_12 := rf_alt_self rfl
set_option maxRecDepth 100000 in
theorem ah_L_13 : rf_ALT cq_L_13 := rf_alt_self rfl
set_option maxRecDepth 100000 in
theorem ah_L_14 : rf_ALT cq_L_14 := rf_alt_self rfl
set_option maxRecDepth 100000 in
theorem ah_L_15 : rf_ALT cq_L_15 := rf_alt_self rfl
set_option maxRecDepth 100000 in
theorem ah_L_16 : rf_ALT cq_L_16 := rf_alt_self rfl
set_option maxRecDepth 100000 in
theorem ah_L_17 : rf_ALT cq_L_17 := rf_alt_self rfl
set_option maxRecDepth 100000 in
theorem ah_L_18 : rf_ALT cq_L_18 := rf_alt_self rfl
set_option maxRecDepth 100000 in
theorem ah_L_19 : rf_ALT cq_L_19 := rf_alt_self rfl
set_option maxRecDepth 100000 in
theorem ah_L_20 : rf_ALT cq_L_20 := rf_alt_self rfl
set_option maxRecDepth 100000 in
theorem ah_L_21 : rf_ALT cq_L_21 := rf_alt_self rfl
set_option maxRecDepth 100000 in
theorem ah_L_22 : rf_ALT cq_L_22 := rf_alt_self rfl
set_option maxRecDepth 100000 in
theorem ah_L_23 : rf_ALT cq_L_23 := rf_alt_self rfl
set_option maxRecDepth 100000 in
theorem ah_L_24 : rf_ALT cq_L_24 := rf_alt_self rfl
set_option maxRecDepth 100000 in
theorem ah_L_25 : rf_ALT cq_L_25 := rf_alt_self rfl
set_option maxRecDepth 100000 in
theorem ah_L_26 : rf_ALT cq_L_26 := rf_alt_self rfl
set_option maxRecDepth 100000 in
theorem ah_L_27 : rf_ALT cq_L_27 := rf_alt_self rfl
set_option maxRecDepth 100000 in
theorem ah_L_28 : rf_ALT cq_L_28 := rf_alt_self rfl
set_option maxRecDepth 100000 in
theorem ah_L_29 : rf_ALT cq_L_29 := rf_alt_self rfl
set_option maxRecDepth 100000 in
theorem ah_L_30 : rf_ALT cq_L_30 := rf_alt_self rfl
set_option maxRecDepth 100000 in
theorem ah_L_31 : rf_ALT cq_L_31 := rf_alt_inf [] (by dsimp only [cq_L_31, al_L_31])
set_option maxRecDepth 100000 in
theorem ah_L_32 : rf_ALT cq_L_32 := rf_alt_inf [] (by dsimp only [cq_L_32, al_L_32])
set_option maxRecDepth 100000 in
theorem ah_L_33 : rf_ALT cq_L_33 := rf_alt_inf [(111, [37], [(0, 20, Int.ofNat 0), (0, 90, Int.ofNat 0), (0, 86, Int.ofNat 0)]), (112, [92], [(0, 91, Int.ofNat 0), (0, 20, Int.ofNat 0), (0, 90, Int.ofNat 0), (0, 86, Int.ofNat 0)])] (by dsimp only [cq_L_33, al_L_33])
set_option maxRecDepth 100000 in
theorem ah_L_34 : rf_ALT cq_L_34 := rf_alt_self rfl
set_option maxRecDepth 100000 in
theorem ah_L_35 : rf_ALT cq_L_35 := rf_alt_inf [(111, [38], [(0, 0, Int.ofNat 0), (0, 0, Int.ofNat 1), (0, 87, Int.ofNat 0)]), (112, [93], [(0, 95, Int.ofNat 0), (0, 0, Int.ofNat 0), (0, 0, Int.ofNat 1), (0, 87, Int.ofNat 0)]), (136, [], [(0, 0, Int.ofNat 0), (0, 91, Int.ofNat 0), (0, 90, Int.ofNat 0), (0, 91, Int.ofNat 0), (0, 90, Int.ofNat 0), (0, 94, Int.ofNat 0), (0, 92, Int.ofNat 0)])] (by dsimp only [cq_L_35, al_L_35])
set_option maxRecDepth 100000 in
theorem ah_L_36 : rf_ALT cq_L_36 := rf_alt_inf [(113, [38], [(0, 0, Int.ofNat 1), (0, 0, Int.ofNat 1), (0, 0, Int.ofNat 0), (0, 0, Int.ofNat 10), (0, 87, Int.ofNat 0)]), (114, [93], [(0, 97, Int.ofNat 0), (0, 0, Int.ofNat 1), (0, 0, Int.ofNat 1), (0, 0, Int.ofNat 0), (0, 0, Int.ofNat 10), (0, 87, Int.ofNat 0)]), (136, [], [(0, 0, Int.ofNat 0), (0, 91, Int.ofNat 0), (0, 90, Int.ofNat 0), (0, 91, Int.ofNat 0), (0, 90, Int.ofNat 0), (0, 96, Int.ofNat 0), (0, 93, Int.ofNat 0)]), (136, [], [(0, 0, Int.ofNat 2), (0, 96, Int.ofNat 0), (0, 0, Int.ofNat 2), (0, 93, Int.ofNat 0), (0, 0, Int.ofNat 2), (0, 95, Int.ofNat 0), (0, 92, Int.ofNat 0)])] (by dsimp only [cq_L_36, al_L_36])
set_option maxRecDepth 100000 in
theorem ah_L_37 : rf_ALT cq_L_37 := rf_alt_inf [(111, [38], [(0, 0, Int.ofNat 0), (0, 0, Int.ofNat 11), (0, 87, Int.ofNat 0)]), (112, [93], [(0, 95, Int.ofNat 0), (0, 0, Int.ofNat 0), (0, 0, Int.ofNat 11), (0, 87, Int.ofNat 0)]), (136, [], [(0, 0, Int.ofNat 4), (0, 91, Int.ofNat 0), (0, 90, Int.ofNat 0), (0, 91, Int.ofNat 0), (0, 90, Int.ofNat 0), (0, 94, Int.ofNat 0), (0, 92, Int.ofNat 0)])] (by dsimp only [cq_L_37, al_L_37])
set_option maxRecDepth 100000 in
theorem ah_L_38 : rf_ALT cq_L_38 := rf_alt_inf [(117, [38], [(0, 0, Int.ofNat 3), (0, 0, Int.ofNat 11), (0, 0, Int.ofNat 2), (0, 0, Int.ofNat 1), (0, 0, Int.ofNat 1), (0, 0, Int.ofNat 10), (0, 0, Int.ofNat 0), (0, 0, Int.ofNat 2), (0, 87, Int.ofNat 0)]), (118, [93], [(0, 101, Int.ofNat 0), (0, 0, Int.ofNat 3), (0, 0, Int.ofNat 11), (0, 0, Int.ofNat 2), (0, 0, Int.ofNat 1), (0, 0, Int.ofNat 1), (0, 0, Int.ofNat 10), (0, 0, Int.ofNat 0), (0, 0, Int.ofNat 2), (0, 87, Int.ofNat 0)]), (136, [], [(0, 0, Int.ofNat 4), (0, 0, Int.ofNat 1), (0, 90, Int.ofNat 0), (0, 0, Int.ofNat 1), (0, 90, Int.ofNat 0), (0, 99, Int.ofNat 0), (0, 94, Int.ofNat 0)]), (136, [], [(0, 0, Int.ofNat 0), (0, 91, Int.ofNat 0), (0, 90, Int.ofNat 0), (0, 91, Int.ofNat 0), (0, 90, Int.ofNat 0), (0, 100, Int.ofNat 0), (0, 95, Int.ofNat 0)]), (136, [], [(0, 0, Int.ofNat 2), (0, 100, Int.ofNat 0), (0, 0, Int.ofNat 2), (0, 95, Int.ofNat 0), (0, 0, Int.ofNat 2), (0, 98, Int.ofNat 0), (0, 93, Int.ofNat 0)]), (136, [], [(0, 0, Int.ofNat 1), (0, 98, Int.ofNat 0), (0, 99, Int.ofNat 0), (0, 93, Int.ofNat 0), (0, 94, Int.ofNat 0), (0, 97, Int.ofNat 0), (0, 92, Int.ofNat 0)])] (by dsimp only [cq_L_38, al_L_38])
set_option maxRecDepth 100000 in
theorem ah_L_39 : rf_ALT cq_L_39 := rf_alt_inf [(113, [38], [(0, 0, Int.ofNat 1), (0, 0, Int.ofNat 1), (0, 0, Int.ofNat 0), (0, 0, Int.ofNat 20), (0, 87, Int.ofNat 0)]), (114, [93], [(0, 97, Int.ofNat 0), (0, 0, Int.ofNat 1), (0, 0, Int.ofNat 1), (0, 0, Int.ofNat 0), (0, 0, Int.ofNat 20), (0, 87, Int.ofNat 0)]), (136, [], [(0, 0, Int.ofNat 0), (0, 91, Int.ofNat 0), (0, 90, Int.ofNat 0), (0, 91, Int.ofNat 0), (0, 90, Int.ofNat 0), (0, 96, Int.ofNat 0), (0, 93, Int.ofNat 0)]), (136, [], [(0, 0, Int.ofNat 0), (0, 96, Int.ofNat 0), (0, 0, Int.ofNat 3), (0, 93, Int.ofNat 0), (0, 0, Int.ofNat 3), (0, 95, Int.ofNat 0), (0, 92, Int.ofNat 0)])] (by dsimp only [cq_L_39, al_L_39])
set_option maxRecDepth 100000 in
theorem ah_L_40 : rf_ALT cq_L_40 := rf_alt_inf [(115, [38], [(0, 0, Int.ofNat 2), (0, 0, Int.ofNat 1), (0, 0, Int.ofNat 1), (0, 0, Int.ofNat 20), (0, 0, Int.ofNat 0), (0, 0, Int.ofNat 10), (0, 87, Int.ofNat 0)]), (116, [93], [(0, 99, Int.ofNat 0), (0, 0, Int.ofNat 2), (0, 0, Int.ofNat 1), (0, 0, Int.ofNat 1), (0, 0, Int.ofNat 20), (0, 0, Int.ofNat 0), (0, 0, Int.ofNat 10), (0, 87, Int.ofNat 0)]), (136, [], [(0, 0, Int.ofNat 0), (0, 91, Int.ofNat 0), (0, 90, Int.ofNat 0), (0, 91, Int.ofNat 0), (0, 90, Int.ofNat 0), (0, 98, Int.ofNat 0), (0, 94, Int.ofNat 0)]), (136, [], [(0, 0, Int.ofNat 0), (0, 98, Int.ofNat 0), (0, 0, Int.ofNat 3), (0, 94, Int.ofNat 0), (0, 0, Int.ofNat 3), (0, 97, Int.ofNat 0), (0, 93, Int.ofNat 0)]), (136, [], [(0, 0, Int.ofNat 2), (0, 97, Int.ofNat 0), (0, 0, Int.ofNat 2), (0, 93, Int.ofNat 0), (0, 0, Int.ofNat 2), (0, 96, Int.ofNat 0), (0, 92, Int.ofNat 0)])] (by dsimp only [cq_L_40, al_L_40])
set_option maxRecDepth 100000 in
theorem ah_L_41 : rf_ALT cq_L_41 := rf_alt_inf [(111, [38], [(0, 0, Int.ofNat 0), (0, 0, Int.ofNat 11), (0, 87, Int.ofNat 0)]), (112, [93], [(0, 95, Int.ofNat 0), (0, 0, Int.ofNat 0), (0, 0, Int.ofNat 11), (0, 87, Int.ofNat 0)]), (136, [], [(0, 0, Int.ofNat 4), (0, 91, Int.ofNat 0), (0, 90, Int.ofNat 0), (0, 91, Int.ofNat 0), (0, 90, Int.ofNat 0), (0, 94, Int.ofNat 0), (0, 92, Int.ofNat 0)])] (by dsimp only [cq_L_41, al_L_41])
set_option maxRecDepth 100000 in
theorem ah_L_42 : rf_ALT cq_L_42 := rf_alt_inf [(119, [38], [(0, 0, Int.ofNat 4), (0, 0, Int.ofNat 11), (0, 0, Int.ofNat 3), (0, 0, Int.ofNat 1), (0, 0, Int.ofNat 2), (0, 0, Int.ofNat 20), (0, 0, Int.ofNat 1), (0, 0, Int.ofNat 10), (0, 0, Int.ofNat 0), (0, 0, Int.ofNat 2), (0, 87, Int.ofNat 0)]), (120, [93], [(0, 103, Int.ofNat 0), (0, 0, Int.ofNat 4), (0, 0, Int.ofNat 11), (0, 0, Int.ofNat 3), (0, 0, Int.ofNat 1), (0, 0, Int.ofNat 2), (0, 0, Int.ofNat 20), (0, 0, Int.ofNat 1), (0, 0, Int.ofNat 10), (0, 0, Int.ofNat 0), (0, 0, Int.ofNat 2), (0, 87, Int.ofNat 0)]), (136, [], [(0, 0, Int.ofNat 4), (0, 0, Int.ofNat 1), (0, 90, Int.ofNat 0), (0, 0, Int.ofNat 1), (0, 90, Int.ofNat 0), (0, 100, Int.ofNat 0), (0, 94, Int.ofNat 0)]), (136, [], [(0, 0, Int.ofNat 0), (0, 91, Int.ofNat 0), (0, 90, Int.ofNat 0), (0, 91, Int.ofNat 0), (0, 90, Int.ofNat 0), (0, 102, Int.ofNat 0), (0, 96, Int.ofNat 0)]), (136, [], [(0, 0, Int.ofNat 0), (0, 102, Int.ofNat 0), (0, 0, Int.ofNat 3), (0, 96, Int.ofNat 0), (0, 0, Int.ofNat 3), (0, 101, Int.ofNat 0), (0, 95, Int.ofNat 0)]), (136, [], [(0, 0, Int.ofNat 2), (0, 101, Int.ofNat 0), (0, 0, Int.ofNat 2), (0, 95, Int.ofNat 0), (0, 0, Int.ofNat 2), (0, 99, Int.ofNat 0), (0, 93, Int.ofNat 0)]), (136, [], [(0, 0, Int.ofNat 1), (0, 99, Int.ofNat 0), (0, 100, Int.ofNat 0), (0, 93, Int.ofNat 0), (0, 94, Int.ofNat 0), (0, 98, Int.ofNat 0), (0, 92, Int.ofNat 0)])] (by dsimp only [cq_L_42, al_L_42])
set_option maxRecDepth 100000 in
theorem ah_L_43 : rf_ALT cq_L_43 := rf_alt_inf [(111, [38], [(0, 0, Int.ofNat 0), (0, 0, Int.ofNat 1), (0, 87, Int.ofNat 0)]), (112, [93], [(0, 95, Int.ofNat 0), (0, 0, Int.ofNat 0), (0, 0, Int.ofNat 1), (0, 87, Int.ofNat 0)]), (136, [], [(0, 0, Int.ofNat 0), (0, 91, Int.ofNat 0), (0, 90, Int.ofNat 0), (0, 91, Int.ofNat 0), (0, 90, Int.ofNat 0), (0, 94, Int.ofNat 0), (0, 92, Int.ofNat 0)])] (by dsimp only [cq_L_43, al_L_43])
set_option maxRecDepth 100000 in
theorem ah_L_44 : rf_ALT cq_L_44 := rf_alt_inf [(115, [38], [(0, 0, Int.ofNat 2), (0, 0, Int.ofNat 1), (0, 0, Int.ofNat 1), (0, 0, Int.ofNat 10), (0, 0, Int.ofNat 0), (0, 0, Int.ofNat 30), (0, 87, Int.ofNat 0)]), (116, [93], [(0, 99, Int.ofNat 0), (0, 0, Int.ofNat 2), (0, 0, Int.ofNat 1), (0, 0, Int.ofNat 1), (0, 0, Int.ofNat 10), (0, 0, Int.ofNat 0), (0, 0, Int.ofNat 30), (0, 87, Int.ofNat 0)]), (136, [], [(0, 0, Int.ofNat 0), (0, 91, Int.ofNat 0), (0, 90, Int.ofNat 0), (0, 91, Int.ofNat 0), (0, 90, Int.ofNat 0), (0, 98, Int.ofNat 0), (0, 94, Int.ofNat 0)]), (136, [], [(0, 0, Int.ofNat 2), (0, 98, Int.ofNat 0), (0, 0, Int.ofNat 2), (0, 94, Int.ofNat 0), (0, 0, Int.ofNat 2), (0, 97, Int.ofNat 0), (0, 93, Int.ofNat 0)]), (136, [], [(0, 0, Int.ofNat 3), (0, 97, Int.ofNat 0), (0, 0, Int.ofNat 0), (0, 93, Int.ofNat 0), (0, 0, Int.ofNat 0), (0, 96, Int.ofNat 0), (0, 92, Int.ofNat 0)])] (by dsimp only [cq_L_44, al_L_44])
set_option maxRecDepth 100000 in
theorem ah_L_45 : rf_ALT cq_L_45 := rf_alt_inf [(111, [38], [(0, 0, Int.ofNat 0), (0, 0, Int.ofNat 11), (0, 87, Int.ofNat 0)]), (112, [93], [(0, 95, Int.ofNat 0), (0, 0, Int.ofNat 0), (0, 0, Int.ofNat 11), (0, 87, Int.ofNat 0)]), (136, [], [(0, 0, Int.ofNat 4), (0, 91, Int.ofNat 0), (0, 90, Int.ofNat 0), (0, 91, Int.ofNat 0), (0, 90, Int.ofNat 0), (0, 94, Int.ofNat 0), (0, 92, Int.ofNat 0)])] (by dsimp only [cq_L_45, al_L_45])
set_option maxRecDepth 100000 in
theorem ah_L_46 : rf_ALT cq_L_46 := rf_alt_inf [(119, [38], [(0, 0, Int.ofNat 4), (0, 0, Int.ofNat 11), (0, 0, Int.ofNat 3), (0, 0, Int.ofNat 1), (0, 0, Int.ofNat 2), (0, 0, Int.ofNat 10), (0, 0, Int.ofNat 1), (0, 0, Int.ofNat 30), (0, 0, Int.ofNat 0), (0, 0, Int.ofNat 2), (0, 87, Int.ofNat 0)]), (120, [93], [(0, 103, Int.ofNat 0), (0, 0, Int.ofNat 4), (0, 0, Int.ofNat 11), (0, 0, Int.ofNat 3), (0, 0, Int.ofNat 1), (0, 0, Int.ofNat 2), (0, 0, Int.ofNat 10), (0, 0, Int.ofNat 1), (0, 0, Int.ofNat 30), (0, 0, Int.ofNat 0), (0, 0, Int.ofNat 2), (0, 87, Int.ofNat 0)]), (136, [], [(0, 0, Int.ofNat 4), (0, 0, Int.ofNat 1), (0, 90, Int.ofNat 0), (0, 0, Int.ofNat 1), (0, 90, Int.ofNat 0), (0, 100, Int.ofNat 0), (0, 94, Int.ofNat 0)]), (136, [], [(0, 0, Int.ofNat 0), (0, 91, Int.ofNat 0), (0, 90, Int.ofNat 0), (0, 91, Int.ofNat 0), (0, 90, Int.ofNat 0), (0, 102, Int.ofNat 0), (0, 96, Int.ofNat 0)]), (136, [], [(0, 0, Int.ofNat 2), (0, 102, Int.ofNat 0), (0, 0, Int.ofNat 2), (0, 96, Int.ofNat 0), (0, 0, Int.ofNat 2), (0, 101, Int.ofNat 0), (0, 95, Int.ofNat 0)]), (136, [], [(0, 0, Int.ofNat 3), (0, 101, Int.ofNat 0), (0, 0, Int.ofNat 0), (0, 95, Int.ofNat 0), (0, 0, Int.ofNat 0), (0, 99, Int.ofNat 0), (0, 93, Int.ofNat 0)]), (136, [], [(0, 0, Int.ofNat 1), (0, 99, Int.ofNat 0), (0, 100, Int.ofNat 0), (0, 93, Int.ofNat 0), (0, 94, Int.ofNat 0), (0, 98, Int.ofNat 0), (0, 92, Int.ofNat 0)])] (by dsimp only [cq_L_46, al_L_46])
set_option maxRecDepth 100000 in
theorem ah_L_47 : rf_ALT cq_L_47 := rf_alt_inf [(111, [38], [(0, 0, Int.ofNat 0), (0, 0, Int.ofNat 1), (0, 87, Int.ofNat 0)]), (112, [93], [(0, 95, Int.ofNat 0), (0, 0, Int.ofNat 0), (0, 0, Int.ofNat 1), (0, 87, Int.ofNat 0)]), (136, [], [(0, 0, Int.ofNat 0), (0, 91, Int.ofNat 0), (0, 90, Int.ofNat 0), (0, 91, Int.ofNat 0), (0, 90, Int.ofNat 0), (0, 94, Int.ofNat 0), (0, 92, Int.ofNat 0)])] (by dsimp only [cq_L_47, al_L_47])
set_option maxRecDepth 100000 in
theorem ah_L_48 : rf_ALT cq_L_48 := rf_alt_inf [(117, [38], [(0, 0, Int.ofNat 3), (0, 0, Int.ofNat 1), (0, 0, Int.ofNat 2), (0, 0, Int.ofNat 10), (0, 0, Int.ofNat 1), (0, 0, Int.ofNat 30), (0, 0, Int.ofNat 0), (0, 0, Int.ofNat 41), (0, 87, Int.ofNat 0)]), (118, [93], [(0, 101, Int.ofNat 0), (0, 0, Int.ofNat 3), (0, 0, Int.ofNat 1), (0, 0, Int.ofNat 2), (0, 0, Int.ofNat 10), (0, 0, Int.ofNat 1), (0, 0, Int.ofNat 30), (0, 0, Int.ofNat 0), (0, 0, Int.ofNat 41), (0, 87, Int.ofNat 0)]), (136, [], [(0, 0, Int.ofNat 0), (0, 91, Int.ofNat 0), (0, 0, Int.ofNat 1), (0, 91, Int.ofNat 0), (0, 0, Int.ofNat 1), (0, 100, Int.ofNat 0), (0, 95, Int.ofNat 0)]), (136, [], [(0, 0, Int.ofNat 0), (0, 100, Int.ofNat 0), (0, 90, Int.ofNat 0), (0, 95, Int.ofNat 0), (0, 90, Int.ofNat 0), (0, 99, Int.ofNat 0), (0, 94, Int.ofNat 0)]), (136, [], [(0, 0, Int.ofNat 2), (0, 99, Int.ofNat 0), (0, 0, Int.ofNat 2), (0, 94, Int.ofNat 0), (0, 0, Int.ofNat 2), (0, 98, Int.ofNat 0), (0, 93, Int.ofNat 0)]), (136, [], [(0, 0, Int.ofNat 3), (0, 98, Int.ofNat 0), (0, 0, Int.ofNat 0), (0, 93, Int.ofNat 0), (0, 0, Int.ofNat 0), (0, 97, Int.ofNat 0), (0, 92, Int.ofNat 0)])] (by dsimp only [cq_L_48, al_L_48])
set_option maxRecDepth 100000 in
theorem ah_L_49 : rf_ALT cq_L_49 := rf_alt_inf [(113, [38], [(0, 0, Int.ofNat 1), (0, 0, Int.ofNat 11), (0, 0, Int.ofNat 0), (0, 0, Int.ofNat 40), (0, 87, Int.ofNat 0)]), (114, [93], [(0, 97, Int.ofNat 0), (0, 0, Int.ofNat 1), (0, 0, Int.ofNat 11), (0, 0, Int.ofNat 0), (0, 0, Int.ofNat 40), (0, 87, Int.ofNat 0)]), (136, [], [(0, 0, Int.ofNat 4), (0, 91, Int.ofNat 0), (0, 90, Int.ofNat 0), (0, 91, Int.ofNat 0), (0, 90, Int.ofNat 0), (0, 96, Int.ofNat 0), (0, 93, Int.ofNat 0)]), (136, [], [(0, 0, Int.ofNat 2), (0, 96, Int.ofNat 0), (0, 0, Int.ofNat 3), (0, 93, Int.ofNat 0), (0, 0, Int.ofNat 3), (0, 95, Int.ofNat 0), (0, 92, Int.ofNat 0)])] (by dsimp only [cq_L_49, al_L_49])
set_option maxRecDepth 100000 in
theorem ah_L_50 : rf_ALT cq_L_50 := rf_alt_inf [(123, [38], [(0, 0, Int.ofNat 6), (0, 0, Int.ofNat 11), (0, 0, Int.ofNat 5), (0, 0, Int.ofNat 40), (0, 0, Int.ofNat 4), (0, 0, Int.ofNat 1), (0, 0, Int.ofNat 3), (0, 0, Int.ofNat 10), (0, 0, Int.ofNat 2), (0, 0, Int.ofNat 30), (0, 0, Int.ofNat 1), (0, 0, Int.ofNat 41), (0, 0, Int.ofNat 0), (0, 0, Int.ofNat 2), (0, 87, Int.ofNat 0)]), (124, [93], [(0, 107, Int.ofNat 0), (0, 0, Int.ofNat 6), (0, 0, Int.ofNat 11), (0, 0, Int.ofNat 5), (0, 0, Int.ofNat 40), (0, 0, Int.ofNat 4), (0, 0, Int.ofNat 1), (0, 0, Int.ofNat 3), (0, 0, Int.ofNat 10), (0, 0, Int.ofNat 2), (0, 0, Int.ofNat 30), (0, 0, Int.ofNat 1), (0, 0, Int.ofNat 41), (0, 0, Int.ofNat 0), (0, 0, Int.ofNat 2), (0, 87, Int.ofNat 0)]), (136, [], [(0, 0, Int.ofNat 4), (0, 0, Int.ofNat 1), (0, 90, Int.ofNat 0), (0, 0, Int.ofNat 1), (0, 90, Int.ofNat 0), (0, 103, Int.ofNat 0), (0, 95, Int.ofNat 0)]), (136, [], [(0, 0, Int.ofNat 0), (0, 91, Int.ofNat 0), (0, 0, Int.ofNat 1), (0, 91, Int.ofNat 0), (0, 0, Int.ofNat 1), (0, 106, Int.ofNat 0), (0, 98, Int.ofNat 0)]), (136, [], [(0, 0, Int.ofNat 2), (0, 103, Int.ofNat 0), (0, 0, Int.ofNat 3), (0, 95, Int.ofNat 0), (0, 0, Int.ofNat 3), (0, 102, Int.ofNat 0), (0, 94, Int.ofNat 0)]), (136, [], [(0, 0, Int.ofNat 0), (0, 106, Int.ofNat 0), (0, 90, Int.ofNat 0), (0, 98, Int.ofNat 0), (0, 90, Int.ofNat 0), (0, 104, Int.ofNat 0), (0, 96, Int.ofNat 0)]), (136, [], [(0, 0, Int.ofNat 2), (0, 104, Int.ofNat 0), (0, 0, Int.ofNat 2), (0, 96, Int.ofNat 0), (0, 0, Int.ofNat 2), (0, 105, Int.ofNat 0), (0, 97, Int.ofNat 0)]), (136, [], [(0, 0, Int.ofNat 3), (0, 105, Int.ofNat 0), (0, 0, Int.ofNat 0), (0, 97, Int.ofNat 0), (0, 0, Int.ofNat 0), (0, 101, Int.ofNat 0), (0, 93, Int.ofNat 0)]), (136, [], [(0, 0, Int.ofNat 1), (0, 101, Int.ofNat 0), (0, 102, Int.ofNat 0), (0, 93, Int.ofNat 0), (0, 94, Int.ofNat 0), (0, 100, Int.ofNat 0), (0, 92, Int.ofNat 0)])] (by dsimp only [cq_L_50, al_L_50])
set_option maxRecDepth 100000 in
theorem ah_L_51 : rf_ALT cq_L_51 := rf_alt_inf [(113, [38], [(0, 0, Int.ofNat 1), (0, 0, Int.ofNat 1), (0, 0, Int.ofNat 0), (0, 0, Int.ofNat 20), (0, 87, Int.ofNat 0)]), (114, [93], [(0, 97, Int.ofNat 0), (0, 0, Int.ofNat 1), (0, 0, Int.ofNat 1), (0, 0, Int.ofNat 0), (0, 0, Int.ofNat 20), (0, 87, Int.ofNat 0)]), (136, [], [(0, 0, Int.ofNat 0), (0, 91, Int.ofNat 0), (0, 90, Int.ofNat 0), (0, 91, Int.ofNat 0), (0, 90, Int.ofNat 0), (0, 96, Int.ofNat 0), (0, 93, Int.ofNat 0)]), (136, [], [(0, 0, Int.ofNat 0), (0, 96, Int.ofNat 0), (0, 0, Int.ofNat 3), (0, 93, Int.ofNat 0), (0, 0, Int.ofNat 3), (0, 95, Int.ofNat 0), (0, 92, Int.ofNat 0)])] (by dsimp only [cq_L_51, al_L_51])
set_option maxRecDepth 100000 in
theorem ah_L_52 : rf_ALT cq_L_52 := rf_alt_inf [(115, [38], [(0, 0, Int.ofNat 2), (0, 0, Int.ofNat 1), (0, 0, Int.ofNat 1), (0, 0, Int.ofNat 20), (0, 0, Int.ofNat 0), (0, 0, Int.ofNat 10), (0, 87, Int.ofNat 0)]), (116, [93], [(0, 99, Int.ofNat 0), (0, 0, Int.ofNat 2), (0, 0, Int.ofNat 1), (0, 0, Int.ofNat 1), (0, 0, Int.ofNat 20), (0, 0, Int.ofNat 0), (0, 0, Int.ofNat 10), (0, 87, Int.ofNat 0)]), (136, [], [(0, 0, Int.ofNat 0), (0, 91, Int.ofNat 0), (0, 90, Int.ofNat 0), (0, 91, Int.ofNat 0), (0, 90, Int.ofNat 0), (0, 98, Int.ofNat 0), (0, 94, Int.ofNat 0)]), (136, [], [(0, 0, Int.ofNat 0), (0, 98, Int.ofNat 0), (0, 0, Int.ofNat 3), (0, 94, Int.ofNat 0), (0, 0, Int.ofNat 3), (0, 97, Int.ofNat 0), (0, 93, Int.ofNat 0)]), (136, [], [(0, 0, Int.ofNat 2), (0, 97, Int.ofNat 0), (0, 0, Int.ofNat 2), (0, 93, Int.ofNat 0), (0, 0, Int.ofNat 2), (0, 96, Int.ofNat 0), (0, 92, Int.ofNat 0)])] (by dsimp only [cq_L_52, al_L_52])
set_option maxRecDepth 100000 in
theorem ah_L_53 : rf_ALT cq_L_53 := rf_alt_inf [(111, [38], [(0, 0, Int.ofNat 0), (0, 0, Int.ofNat 11), (0, 87, Int.ofNat 0)]), (112, [93], [(0, 95, Int.ofNat 0), (0, 0, Int.ofNat 0), (0, 0, Int.ofNat 11), (0, 87, Int.ofNat 0)]), (136, [], [(0, 0, Int.ofNat 4), (0, 91, Int.ofNat 0), (0, 90, Int.ofNat 0), (0, 91, Int.ofNat 0), (0, 90, Int.ofNat 0), (0, 94, Int.ofNat 0), (0, 92, Int.ofNat 0)])] (by dsimp only [cq_L_53, al_L_53])
set_option maxRecDepth 100000 in
theorem ah_L_54 : rf_ALT cq_L_54 := rf_alt_inf [(121, [38], [(0, 0, Int.ofNat 5), (0, 0, Int.ofNat 11), (0, 0, Int.ofNat 4), (0, 0, Int.ofNat 1), (0, 0, Int.ofNat 3), (0, 0, Int.ofNat 20), (0, 0, Int.ofNat 2), (0, 0, Int.ofNat 10), (0, 0, Int.ofNat 1), (0, 0, Int.ofNat 2), (0, 0, Int.ofNat 0), (0, 0, Int.ofNat 50), (0, 87, Int.ofNat 0)]), (122, [93], [(0, 105, Int.ofNat 0), (0, 0, Int.ofNat 5), (0, 0, Int.ofNat 11), (0, 0, Int.ofNat 4), (0, 0, Int.ofNat 1), (0, 0, Int.ofNat 3), (0, 0, Int.ofNat 20), (0, 0, Int.ofNat 2), (0, 0, Int.ofNat 10), (0, 0, Int.ofNat 1), (0, 0, Int.ofNat 2), (0, 0, Int.ofNat 0), (0, 0, Int.ofNat 50), (0, 87, Int.ofNat 0)]), (136, [], [(0, 0, Int.ofNat 4), (0, 0, Int.ofNat 1), (0, 90, Int.ofNat 0), (0, 0, Int.ofNat 1), (0, 90, Int.ofNat 0), (0, 101, Int.ofNat 0), (0, 94, Int.ofNat 0)]), (136, [], [(0, 0, Int.ofNat 0), (0, 91, Int.ofNat 0), (0, 90, Int.ofNat 0), (0, 91, Int.ofNat 0), (0, 90, Int.ofNat 0), (0, 104, Int.ofNat 0), (0, 97, Int.ofNat 0)]), (136, [], [(0, 0, Int.ofNat 0), (0, 104, Int.ofNat 0), (0, 0, Int.ofNat 3), (0, 97, Int.ofNat 0), (0, 0, Int.ofNat 3), (0, 103, Int.ofNat 0), (0, 96, Int.ofNat 0)]), (136, [], [(0, 0, Int.ofNat 2), (0, 103, Int.ofNat 0), (0, 0, Int.ofNat 2), (0, 96, Int.ofNat 0), (0, 0, Int.ofNat 2), (0, 102, Int.ofNat 0), (0, 95, Int.ofNat 0)]), (136, [], [(0, 0, Int.ofNat 1), (0, 102, Int.ofNat 0), (0, 101, Int.ofNat 0), (0, 95, Int.ofNat 0), (0, 94, Int.ofNat 0), (0, 100, Int.ofNat 0), (0, 93, Int.ofNat 0)]), (136, [], [(0, 0, Int.ofNat 4), (0, 100, Int.ofNat 0), (0, 0, Int.ofNat 5), (0, 93, Int.ofNat 0), (0, 0, Int.ofNat 5), (0, 99, Int.ofNat 0), (0, 92, Int.ofNat 0)])] (by dsimp only [cq_L_54, al_L_54])
set_option maxRecDepth 100000 in
theorem ah_L_55 : rf_ALT cq_L_55 := rf_alt_inf [(111, [38], [(0, 0, Int.ofNat 0), (0, 0, Int.ofNat 1), (0, 87, Int.ofNat 0)]), (112, [93], [(0, 95, Int.ofNat 0), (0, 0, Int.ofNat 0), (0, 0, Int.ofNat 1), (0, 87, Int.ofNat 0)]), (136, [], [(0, 0, Int.ofNat 0), (0, 91, Int.ofNat 0), (0, 90, Int.ofNat 0), (0, 91, Int.ofNat 0), (0, 90, Int.ofNat 0), (0, 94, Int.ofNat 0), (0, 92, Int.ofNat 0)])] (by dsimp only [cq_L_55, al_L_55])
set_option maxRecDepth 100000 in
theorem ah_L_56 : rf_ALT cq_L_56 := rf_alt_inf [(117, [38], [(0, 0, Int.ofNat 3), (0, 0, Int.ofNat 1), (0, 0, Int.ofNat 2), (0, 0, Int.ofNat 10), (0, 0, Int.ofNat 1), (0, 0, Int.ofNat 30), (0, 0, Int.ofNat 0), (0, 0, Int.ofNat 41), (0, 87, Int.ofNat 0)]), (118, [93], [(0, 101, Int.ofNat 0), (0, 0, Int.ofNat 3), (0, 0, Int.ofNat 1), (0, 0, Int.ofNat 2), (0, 0, Int.ofNat 10), (0, 0, Int.ofNat 1), (0, 0, Int.ofNat 30), (0, 0, Int.ofNat 0), (0, 0, Int.ofNat 41), (0, 87, Int.ofNat 0)]), (136, [], [(0, 0, Int.ofNat 0), (0, 91, Int.ofNat 0), (0, 0, Int.ofNat 1), (0, 91, Int.ofNat 0), (0, 0, Int.ofNat 1), (0, 100, Int.ofNat 0), (0, 95, Int.ofNat 0)]), (136, [], [(0, 0, Int.ofNat 0), (0, 100, Int.ofNat 0), (0, 90, Int.ofNat 0), (0, 95, Int.ofNat 0), (0, 90, Int.ofNat 0), (0, 99, Int.ofNat 0), (0, 94, Int.ofNat 0)]), (136, [], [(0, 0, Int.ofNat 2), (0, 99, Int.ofNat 0), (0, 0, Int.ofNat 2), (0, 94, Int.ofNat 0), (0, 0, Int.ofNat 2), (0, 98, Int.ofNat 0), (0, 93, Int.ofNat 0)]), (136, [], [(0, 0, Int.ofNat 3), (0, 98, Int.ofNat 0), (0, 0, Int.ofNat 0), (0, 93, Int.ofNat 0), (0, 0, Int.ofNat 0), (0, 97, Int.ofNat 0), (0, 92, Int.ofNat 0)])] (by dsimp only [cq_L_56, al_L_56])
set_option maxRecDepth 100000 in
theorem ah_L_57 : rf_ALT cq_L_57 := rf_alt_inf [(117, [38], [(0, 0, Int.ofNat 3), (0, 0, Int.ofNat 1), (0, 0, Int.ofNat 2), (0, 0, Int.ofNat 11), (0, 0, Int.ofNat 1), (0, 0, Int.ofNat 40), (0, 0, Int.ofNat 0), (0, 0, Int.ofNat 60), (0, 87, Int.ofNat 0)]), (118, [93], [(0, 101, Int.ofNat 0), (0, 0, Int.ofNat 3), (0, 0, Int.ofNat 1), (0, 0, Int.ofNat 2), (0, 0, Int.ofNat 11), (0, 0, Int.ofNat 1), (0, 0, Int.ofNat 40), (0, 0, Int.ofNat 0), (0, 0, Int.ofNat 60), (0, 87, Int.ofNat 0)]), (136, [], [(0, 0, Int.ofNat 0), (0, 0, Int.ofNat 2), (0, 90, Int.ofNat 0), (0, 0, Int.ofNat 2), (0, 90, Int.ofNat 0), (0, 99, Int.ofNat 0), (0, 94, Int.ofNat 0)]), (136, [], [(0, 0, Int.ofNat 4), (0, 91, Int.ofNat 0), (0, 90, Int.ofNat 0), (0, 91, Int.ofNat 0), (0, 90, Int.ofNat 0), (0, 100, Int.ofNat 0), (0, 95, Int.ofNat 0)]), (136, [], [(0, 0, Int.ofNat 2), (0, 100, Int.ofNat 0), (0, 0, Int.ofNat 3), (0, 95, Int.ofNat 0), (0, 0, Int.ofNat 3), (0, 98, Int.ofNat 0), (0, 93, Int.ofNat 0)]), (136, [], [(0, 0, Int.ofNat 1), (0, 98, Int.ofNat 0), (0, 99, Int.ofNat 0), (0, 93, Int.ofNat 0), (0, 94, Int.ofNat 0), (0, 97, Int.ofNat 0), (0, 92, Int.ofNat 0)])] (by dsimp only [cq_L_57, al_L_57])
set_option maxRecDepth 100000 in
theorem ah_L_58 : rf_ALT cq_L_58 := rf_alt_inf [(129, [38], [(0, 0, Int.ofNat 9), (0, 0, Int.ofNat 1), (0, 0, Int.ofNat 8), (0, 0, Int.ofNat 11), (0, 0, Int.ofNat 7), (0, 0, Int.ofNat 40), (0, 0, Int.ofNat 6), (0, 0, Int.ofNat 60), (0, 0, Int.ofNat 5), (0, 0, Int.ofNat 1), (0, 0, Int.ofNat 4), (0, 0, Int.ofNat 10), (0, 0, Int.ofNat 3), (0, 0, Int.ofNat 30), (0, 0, Int.ofNat 2), (0, 0, Int.ofNat 41), (0, 0, Int.ofNat 1), (0, 0, Int.ofNat 2), (0, 0, Int.ofNat 0), (0, 0, Int.ofNat 61), (0, 87, Int.ofNat 0)]), (130, [93], [(0, 113, Int.ofNat 0), (0, 0, Int.ofNat 9), (0, 0, Int.ofNat 1), (0, 0, Int.ofNat 8), (0, 0, Int.ofNat 11), (0, 0, Int.ofNat 7), (0, 0, Int.ofNat 40), (0, 0, Int.ofNat 6), (0, 0, Int.ofNat 60), (0, 0, Int.ofNat 5), (0, 0, Int.ofNat 1), (0, 0, Int.ofNat 4), (0, 0, Int.ofNat 10), (0, 0, Int.ofNat 3), (0, 0, Int.ofNat 30), (0, 0, Int.ofNat 2), (0, 0, Int.ofNat 41), (0, 0, Int.ofNat 1), (0, 0, Int.ofNat 2), (0, 0, Int.ofNat 0), (0, 0, Int.ofNat 61), (0, 87, Int.ofNat 0)]), (136, [], [(0, 0, Int.ofNat 0), (0, 0, Int.ofNat 2), (0, 90, Int.ofNat 0), (0, 0, Int.ofNat 2), (0, 90, Int.ofNat 0), (0, 105, Int.ofNat 0), (0, 94, Int.ofNat 0)]), (136, [], [(0, 0, Int.ofNat 0), (0, 91, Int.ofNat 0), (0, 0, Int.ofNat 1), (0, 91, Int.ofNat 0), (0, 0, Int.ofNat 1), (0, 106, Int.ofNat 0), (0, 95, Int.ofNat 0)]), (136, [], [(0, 0, Int.ofNat 4), (0, 0, Int.ofNat 1), (0, 90, Int.ofNat 0), (0, 0, Int.ofNat 1), (0, 90, Int.ofNat 0), (0, 111, Int.ofNat 0), (0, 100, Int.ofNat 0)]), (136, [], [(0, 0, Int.ofNat 0), (0, 106, Int.ofNat 0), (0, 90, Int.ofNat 0), (0, 95, Int.ofNat 0), (0, 90, Int.ofNat 0), (0, 107, Int.ofNat 0), (0, 96, Int.ofNat 0)]), (136, [], [(0, 0, Int.ofNat 2), (0, 111, Int.ofNat 0), (0, 0, Int.ofNat 3), (0, 100, Int.ofNat 0), (0, 0, Int.ofNat 3), (0, 110, Int.ofNat 0), (0, 99, Int.ofNat 0)]), (136, [], [(0, 0, Int.ofNat 2), (0, 107, Int.ofNat 0), (0, 0, Int.ofNat 2), (0, 96, Int.ofNat 0), (0, 0, Int.ofNat 2), (0, 112, Int.ofNat 0), (0, 101, Int.ofNat 0)]), (136, [], [(0, 0, Int.ofNat 3), (0, 112, Int.ofNat 0), (0, 0, Int.ofNat 0), (0, 101, Int.ofNat 0), (0, 0, Int.ofNat 0), (0, 108, Int.ofNat 0), (0, 97, Int.ofNat 0)]), (136, [], [(0, 0, Int.ofNat 1), (0, 110, Int.ofNat 0), (0, 105, Int.ofNat 0), (0, 99, Int.ofNat 0), (0, 94, Int.ofNat 0), (0, 109, Int.ofNat 0), (0, 98, Int.ofNat 0)]), (136, [], [(0, 0, Int.ofNat 1), (0, 108, Int.ofNat 0), (0, 109, Int.ofNat 0), (0, 97, Int.ofNat 0), (0, 98, Int.ofNat 0), (0, 104, Int.ofNat 0), (0, 93, Int.ofNat 0)]), (136, [], [(0, 0, Int.ofNat 0), (0, 104, Int.ofNat 0), (0, 0, Int.ofNat 1), (0, 93, Int.ofNat 0), (0, 0, Int.ofNat 1), (0, 103, Int.ofNat 0), (0, 92, Int.ofNat 0)])] (by dsimp only [cq_L_58, al_L_58])
set_option maxRecDepth 100000 in
theorem ah_L_59 : rf_ALT cq_L_59 := rf_alt_inf [(113, [38], [(0, 0, Int.ofNat 1), (0, 0, Int.ofNat 1), (0, 0, Int.ofNat 0), (0, 0, Int.ofNat 70), (0, 87, Int.ofNat 0)]), (114, [93], [(0, 97, Int.ofNat 0), (0, 0, Int.ofNat 1), (0, 0, Int.ofNat 1), (0, 0, Int.ofNat 0), (0, 0, Int.ofNat 70), (0, 87, Int.ofNat 0)]), (136, [], [(0, 0, Int.ofNat 0), (0, 91, Int.ofNat 0), (0, 90, Int.ofNat 0), (0, 91, Int.ofNat 0), (0, 90, Int.ofNat 0), (0, 96, Int.ofNat 0), (0, 93, Int.ofNat 0)]), (136, [], [(0, 0, Int.ofNat 2), (0, 96, Int.ofNat 0), (0, 0, Int.ofNat 2), (0, 93, Int.ofNat 0), (0, 0, Int.ofNat 2), (0, 95, Int.ofNat 0), (0, 92, Int.ofNat 0)])] (by dsimp only [cq_L_59, al_L_59])
set_option maxRecDepth 100000 in
theorem ah_L_60 : rf_ALT cq_L_60 := rf_alt_inf [(115, [38], [(0, 0, Int.ofNat 2), (0, 0, Int.ofNat 1), (0, 0, Int.ofNat 1), (0, 0, Int.ofNat 70), (0, 0, Int.ofNat 0), (0, 0, Int.ofNat 10), (0, 87, Int.ofNat 0)]), (116, [93], [(0, 99, Int.ofNat 0), (0, 0, Int.ofNat 2), (0, 0, Int.ofNat 1), (0, 0, Int.ofNat 1), (0, 0, Int.ofNat 70), (0, 0, Int.ofNat 0), (0, 0, Int.ofNat 10), (0, 87, Int.ofNat 0)]), (136, [], [(0, 0, Int.ofNat 0), (0, 91, Int.ofNat 0), (0, 90, Int.ofNat 0), (0, 91, Int.ofNat 0), (0, 90, Int.ofNat 0), (0, 98, Int.ofNat 0), (0, 94, Int.ofNat 0)]), (136, [], [(0, 0, Int.ofNat 2), (0, 98, Int.ofNat 0), (0, 0, Int.ofNat 2), (0, 94, Int.ofNat 0), (0, 0, Int.ofNat 2), (0, 97, Int.ofNat 0), (0, 93, Int.ofNat 0)]), (136, [], [(0, 0, Int.ofNat 2), (0, 97, Int.ofNat 0), (0, 0, Int.ofNat 2), (0, 93, Int.ofNat 0), (0, 0, Int.ofNat 2), (0, 96, Int.ofNat 0), (0, 92, Int.ofNat 0)])] (by dsimp only [cq_L_60, al_L_60])
set_option maxRecDepth 100000 in
theorem ah_L_61 : rf_ALT cq_L_61 := rf_alt_inf [(111, [38], [(0, 0, Int.ofNat 0), (0, 0, Int.ofNat 11), (0, 87, Int.ofNat 0)]), (112, [93], [(0, 95, Int.ofNat 0), (0, 0, Int.ofNat 0), (0, 0, Int.ofNat 11), (0, 87, Int.ofNat 0)]), (136, [], [(0, 0, Int.ofNat 4), (0, 91, Int.ofNat 0), (0, 90, Int.ofNat 0), (0, 91, Int.ofNat 0), (0, 90, Int.ofNat 0), (0, 94, Int.ofNat 0), (0, 92, Int.ofNat 0)])] (by dsimp only [cq_L_61, al_L_61])
set_option maxRecDepth 100000 in
theorem ah_L_62 : rf_ALT cq_L_62 := rf_alt_inf [(119, [38], [(0, 0, Int.ofNat 4), (0, 0, Int.ofNat 11), (0, 0, Int.ofNat 3), (0, 0, Int.ofNat 1), (0, 0, Int.ofNat 2), (0, 0, Int.ofNat 70), (0, 0, Int.ofNat 1), (0, 0, Int.ofNat 10), (0, 0, Int.ofNat 0), (0, 0, Int.ofNat 2), (0, 87, Int.ofNat 0)]), (120, [93], [(0, 103, Int.ofNat 0), (0, 0, Int.ofNat 4), (0, 0, Int.ofNat 11), (0, 0, Int.ofNat 3), (0, 0, Int.ofNat 1), (0, 0, Int.ofNat 2), (0, 0, Int.ofNat 70), (0, 0, Int.ofNat 1), (0, 0, Int.ofNat 10), (0, 0, Int.ofNat 0), (0, 0, Int.ofNat 2), (0, 87, Int.ofNat 0)]), (136, [], [(0, 0, Int.ofNat 4), (0, 0, Int.ofNat 1), (0, 90, Int.ofNat 0), (0, 0, Int.ofNat 1), (0, 90, Int.ofNat 0), (0, 100, Int.ofNat 0), (0, 94, Int.ofNat 0)]), (136, [], [(0, 0, Int.ofNat 0), (0, 91, Int.ofNat 0), (0, 90, Int.ofNat 0), (0, 91, Int.ofNat 0), (0, 90, Int.ofNat 0), (0, 102, Int.ofNat 0), (0, 96, Int.ofNat 0)]), (136, [], [(0, 0, Int.ofNat 2), (0, 102, Int.ofNat 0), (0, 0, Int.ofNat 2), (0, 96, Int.ofNat 0), (0, 0, Int.ofNat 2), (0, 101, Int.ofNat 0), (0, 95, Int.ofNat 0)]), (136, [], [(0, 0, Int.ofNat 2), (0, 101, Int.ofNat 0), (0, 0, Int.ofNat 2), (0, 95, Int.ofNat 0), (0, 0, Int.ofNat 2), (0, 99, Int.ofNat 0), (0, 93, Int.ofNat 0)]), (136, [], [(0, 0, Int.ofNat 1), (0, 99, Int.ofNat 0), (0, 100, Int.ofNat 0), (0, 93, Int.ofNat 0), (0, 94, Int.ofNat 0), (0, 98, Int.ofNat 0), (0, 92, Int.ofNat 0)])] (by dsimp only [cq_L_62, al_L_62])
set_option maxRecDepth 100000 in
theorem ah_L_63 : rf_ALT cq_L_63 := rf_alt_inf [(115, [38], [(0, 0, Int.ofNat 2), (0, 0, Int.ofNat 1), (0, 0, Int.ofNat 1), (0, 0, Int.ofNat 70), (0, 0, Int.ofNat 0), (0, 0, Int.ofNat 81), (0, 87, Int.ofNat 0)]), (116, [93], [(0, 99, Int.ofNat 0), (0, 0, Int.ofNat 2), (0, 0, Int.ofNat 1), (0, 0, Int.ofNat 1), (0, 0, Int.ofNat 70), (0, 0, Int.ofNat 0), (0, 0, Int.ofNat 81), (0, 87, Int.ofNat 0)]), (136, [], [(0, 0, Int.ofNat 0), (0, 91, Int.ofNat 0), (0, 90, Int.ofNat 0), (0, 91, Int.ofNat 0), (0, 90, Int.ofNat 0), (0, 98, Int.ofNat 0), (0, 94, Int.ofNat 0)]), (136, [], [(0, 0, Int.ofNat 2), (0, 98, Int.ofNat 0), (0, 0, Int.ofNat 2), (0, 94, Int.ofNat 0), (0, 0, Int.ofNat 2), (0, 97, Int.ofNat 0), (0, 93, Int.ofNat 0)]), (136, [], [(0, 0, Int.ofNat 1), (0, 97, Int.ofNat 0), (0, 0, Int.ofNat 1), (0, 93, Int.ofNat 0), (0, 0, Int.ofNat 1), (0, 96, Int.ofNat 0), (0, 92, Int.ofNat 0)])] (by dsimp only [cq_L_63, al_L_63])
set_option maxRecDepth 100000 in
theorem ah_L_64 : rf_ALT cq_L_64 := rf_alt_inf [(121, [38], [(0, 0, Int.ofNat 5), (0, 0, Int.ofNat 11), (0, 0, Int.ofNat 4), (0, 0, Int.ofNat 1), (0, 0, Int.ofNat 3), (0, 0, Int.ofNat 70), (0, 0, Int.ofNat 2), (0, 0, Int.ofNat 81), (0, 0, Int.ofNat 1), (0, 0, Int.ofNat 10), (0, 0, Int.ofNat 0), (0, 0, Int.ofNat 80), (0, 87, Int.ofNat 0)]), (122, [93], [(0, 105, Int.ofNat 0), (0, 0, Int.ofNat 5), (0, 0, Int.ofNat 11), (0, 0, Int.ofNat 4), (0, 0, Int.ofNat 1), (0, 0, Int.ofNat 3), (0, 0, Int.ofNat 70), (0, 0, Int.ofNat 2), (0, 0, Int.ofNat 81), (0, 0, Int.ofNat 1), (0, 0, Int.ofNat 10), (0, 0, Int.ofNat 0), (0, 0, Int.ofNat 80), (0, 87, Int.ofNat 0)]), (136, [], [(0, 0, Int.ofNat 0), (0, 91, Int.ofNat 0), (0, 90, Int.ofNat 0), (0, 91, Int.ofNat 0), (0, 90, Int.ofNat 0), (0, 102, Int.ofNat 0), (0, 95, Int.ofNat 0)]), (136, [], [(0, 0, Int.ofNat 4), (0, 0, Int.ofNat 2), (0, 90, Int.ofNat 0), (0, 0, Int.ofNat 2), (0, 90, Int.ofNat 0), (0, 101, Int.ofNat 0), (0, 94, Int.ofNat 0)]), (136, [], [(0, 0, Int.ofNat 2), (0, 102, Int.ofNat 0), (0, 0, Int.ofNat 2), (0, 95, Int.ofNat 0), (0, 0, Int.ofNat 2), (0, 104, Int.ofNat 0), (0, 97, Int.ofNat 0)]), (136, [], [(0, 0, Int.ofNat 1), (0, 104, Int.ofNat 0), (0, 0, Int.ofNat 1), (0, 97, Int.ofNat 0), (0, 0, Int.ofNat 1), (0, 103, Int.ofNat 0), (0, 96, Int.ofNat 0)]), (136, [], [(0, 0, Int.ofNat 2), (0, 103, Int.ofNat 0), (0, 0, Int.ofNat 2), (0, 96, Int.ofNat 0), (0, 0, Int.ofNat 2), (0, 100, Int.ofNat 0), (0, 93, Int.ofNat 0)]), (136, [], [(0, 0, Int.ofNat 0), (0, 100, Int.ofNat 0), (0, 101, Int.ofNat 0), (0, 93, Int.ofNat 0), (0, 94, Int.ofNat 0), (0, 99, Int.ofNat 0), (0, 92, Int.ofNat 0)])] (by dsimp only [cq_L_64, al_L_64])
set_option maxRecDepth 100000 in
theorem ah_L_65 : rf_ALT cq_L_65 := rf_alt_inf [(111, [38], [(0, 0, Int.ofNat 0), (0, 0, Int.ofNat 11), (0, 87, Int.ofNat 0)]), (112, [93], [(0, 95, Int.ofNat 0), (0, 0, Int.ofNat 0), (0, 0, Int.ofNat 11), (0, 87, Int.ofNat 0)]), (136, [], [(0, 0, Int.ofNat 4), (0, 91, Int.ofNat 0), (0, 90, Int.ofNat 0), (0, 91, Int.ofNat 0), (0, 90, Int.ofNat 0), (0, 94, Int.ofNat 0), (0, 92, Int.ofNat 0)])] (by dsimp only [cq_L_65, al_L_65])
set_option maxRecDepth 100000 in
theorem ah_L_66 : rf_ALT cq_L_66 := rf_alt_inf [(125, [38], [(0, 0, Int.ofNat 7), (0, 0, Int.ofNat 11), (0, 0, Int.ofNat 6), (0, 0, Int.ofNat 11), (0, 0, Int.ofNat 5), (0, 0, Int.ofNat 1), (0, 0, Int.ofNat 4), (0, 0, Int.ofNat 70), (0, 0, Int.ofNat 3), (0, 0, Int.ofNat 81), (0, 0, Int.ofNat 2), (0, 0, Int.ofNat 10), (0, 0, Int.ofNat 1), (0, 0, Int.ofNat 80), (0, 0, Int.ofNat 0), (0, 0, Int.ofNat 2), (0, 87, Int.ofNat 0)]), (126, [93], [(0, 109, Int.ofNat 0), (0, 0, Int.ofNat 7), (0, 0, Int.ofNat 11), (0, 0, Int.ofNat 6), (0, 0, Int.ofNat 11), (0, 0, Int.ofNat 5), (0, 0, Int.ofNat 1), (0, 0, Int.ofNat 4), (0, 0, Int.ofNat 70), (0, 0, Int.ofNat 3), (0, 0, Int.ofNat 81), (0, 0, Int.ofNat 2), (0, 0, Int.ofNat 10), (0, 0, Int.ofNat 1), (0, 0, Int.ofNat 80), (0, 0, Int.ofNat 0), (0, 0, Int.ofNat 2), (0, 87, Int.ofNat 0)]), (136, [], [(0, 0, Int.ofNat 4), (0, 0, Int.ofNat 1), (0, 90, Int.ofNat 0), (0, 0, Int.ofNat 1), (0, 90, Int.ofNat 0), (0, 103, Int.ofNat 0), (0, 94, Int.ofNat 0)]), (136, [], [(0, 0, Int.ofNat 4), (0, 0, Int.ofNat 2), (0, 90, Int.ofNat 0), (0, 0, Int.ofNat 2), (0, 90, Int.ofNat 0), (0, 106, Int.ofNat 0), (0, 97, Int.ofNat 0)]), (136, [], [(0, 0, Int.ofNat 0), (0, 91, Int.ofNat 0), (0, 90, Int.ofNat 0), (0, 91, Int.ofNat 0), (0, 90, Int.ofNat 0), (0, 108, Int.ofNat 0), (0, 99, Int.ofNat 0)]), (136, [], [(0, 0, Int.ofNat 2), (0, 108, Int.ofNat 0), (0, 0, Int.ofNat 2), (0, 99, Int.ofNat 0), (0, 0, Int.ofNat 2), (0, 104, Int.ofNat 0), (0, 95, Int.ofNat 0)]), (136, [], [(0, 0, Int.ofNat 1), (0, 104, Int.ofNat 0), (0, 0, Int.ofNat 1), (0, 95, Int.ofNat 0), (0, 0, Int.ofNat 1), (0, 105, Int.ofNat 0), (0, 96, Int.ofNat 0)]), (136, [], [(0, 0, Int.ofNat 2), (0, 105, Int.ofNat 0), (0, 0, Int.ofNat 2), (0, 96, Int.ofNat 0), (0, 0, Int.ofNat 2), (0, 107, Int.ofNat 0), (0, 98, Int.ofNat 0)]), (136, [], [(0, 0, Int.ofNat 0), (0, 107, Int.ofNat 0), (0, 106, Int.ofNat 0), (0, 98, Int.ofNat 0), (0, 97, Int.ofNat 0), (0, 102, Int.ofNat 0), (0, 93, Int.ofNat 0)]), (136, [], [(0, 0, Int.ofNat 1), (0, 102, Int.ofNat 0), (0, 103, Int.ofNat 0), (0, 93, Int.ofNat 0), (0, 94, Int.ofNat 0), (0, 101, Int.ofNat 0), (0, 92, Int.ofNat 0)])] (by dsimp only [cq_L_66, al_L_66])
set_option maxRecDepth 100000 in
theorem ah_L_67 : rf_ALT cq_L_67 := rf_alt_inf [] (by dsimp only [cq_L_67, al_L_67])
set_option maxRecDepth 100000 in
theorem ah_L_68 : rf_ALT cq_L_68 := rf_alt_inf [] (by dsimp only [cq_L_68, al_L_68])
set_option maxRecDepth 100000 in
theorem ah_L_69 : rf_ALT cq_L_69 := rf_alt_inf [] (by dsimp only [cq_L_69, al_L_69])
set_option maxRecDepth 100000 in
theorem ah_L_70 : rf_ALT cq_L_70 := rf_alt_inf [] (by dsimp only [cq_L_70, al_L_70])
set_option maxRecDepth 100000 in
theorem ah_L_71 : rf_ALT cq_L_71 := rf_alt_self rfl
set_option maxRecDepth 100000 in
theorem ah_L_72 : rf_ALT cq_L_72 := rf_alt_inf [] (by dsimp only [cq_L_72, al_L_72])
set_option maxRecDepth 100000 in
theorem ah_L_73 : rf_ALT cq_L_73 := rf_alt_inf [] (by dsimp only [cq_L_73, al_L_73])
set_option maxRecDepth 100000 in
theorem ah_L_74 : rf_ALT cq_L_74 := rf_alt_inf [] (by dsimp only [cq_L_74, al_L_74])
set_option maxRecDepth 100000 in
theorem ah_L_75 : rf_ALT cq_L_75 := rf_alt_inf [] (by dsimp only [cq_L_75, al_L_75])
set_option maxRecDepth 100000 in
theorem ah_L_76 : rf_ALT cq_L_76 := rf_alt_inf [] (by dsimp only [cq_L_76, al_L_76])
set_option maxRecDepth 100000 in
theorem ah_L_77 : rf_ALT cq_L_77 := rf_alt_inf [] (by dsimp only [cq_L_77, al_L_77])
set_option maxRecDepth 100000 in
theorem ah_L_78 : rf_ALT cq_L_78 := rf_alt_self rfl
set_option maxRecDepth 100000 in
theorem ah_L_79 : rf_ALT cq_L_79 := rf_alt_self rfl
set_option maxRecDepth 100000 in
theorem ah_L_80 : rf_ALT cq_L_80 := rf_alt_self rfl
set_option maxRecDepth 100000 in
theorem ah_L_81 : rf_ALT cq_L_81 := rf_alt_self rfl
set_option maxRecDepth 100000 in
theorem ah_L_82 : rf_ALT cq_L_82 := rf_alt_self rfl
set_option maxRecDepth 100000 in
theorem ah_L_83 : rf_ALT cq_L_83 := rf_alt_self rfl
set_option maxRecDepth 100000 in
theorem ah_L_84 : rf_ALT cq_L_84 := rf_alt_self rfl
set_option maxRecDepth 100000 in
theorem ah_L : ∀ cu ∈ cu_L, rf_ALT cu := (List.forall_mem_cons.mpr ⟨ah_L_0, (List.forall_mem_cons.mpr ⟨ah_L_1, (List.forall_mem_cons.mpr ⟨ah_L_2, (List.forall_mem_cons.mpr ⟨ah_L_3, (List.forall_mem_cons.mpr ⟨ah_L_4, (List.forall_mem_cons.mpr ⟨ah_L_5, (List.forall_mem_cons.mpr ⟨ah_L_6, (List.forall_mem_cons.mpr ⟨ah_L_7, (List.forall_mem_cons.mpr ⟨ah_L_8, (List.forall_mem_cons.mpr ⟨ah_L_9, (List.forall_mem_cons.mpr ⟨ah_L_10, (List.forall_mem_cons.mpr ⟨ah_L_11, (List.forall_mem_cons.mpr ⟨ah_L_12, (List.forall_mem_cons.mpr ⟨ah_L_13, (List.forall_mem_cons.mpr ⟨ah_L_14, (List.forall_mem_cons.mpr ⟨ah_L_15, (List.forall_mem_cons.mpr ⟨ah_L_16, (List.forall_mem_cons.mpr ⟨ah_L_17, (List.forall_mem_cons.mpr ⟨ah_L_18, (List.forall_mem_cons.mpr ⟨ah_L_19, (List.forall_mem_cons.mpr ⟨ah_L_20, (List.forall_mem_cons.mpr ⟨ah_L_21, (List.forall_mem_cons.mpr ⟨ah_L_22, (List.forall_mem_cons.mpr ⟨ah_L_23, (List.forall_mem_cons.mpr ⟨ah_L_24, (List.forall_mem_cons.mpr ⟨ah_L_25, (List.forall_mem_cons.mpr ⟨ah_L_26, (List.forall_mem_cons.mpr ⟨ah_L_27, (List.forall_mem_cons.mpr ⟨ah_L_28, (List.forall_mem_cons.mpr ⟨ah_L_29, (List.forall_mem_cons.mpr ⟨ah_L_30, (List.forall_mem_cons.mpr ⟨ah_L_31, (List.forall_mem_cons.mpr ⟨ah_L_32, (List.forall_mem_cons.mpr ⟨ah_L_33, (List.forall_mem_cons.mpr ⟨ah_L_34, (List.forall_mem_cons.mpr ⟨ah_L_35, (List.forall_mem_cons.mpr ⟨ah_L_36, (List.forall_mem_cons.mpr ⟨ah_L_37, (List.forall_mem_cons.mpr ⟨ah_L_38, (List.forall_mem_cons.mpr ⟨ah_L_39, (List.forall_mem_cons.mpr ⟨ah_L_40, (List.forall_mem_cons.mpr ⟨ah_L_41, (List.forall_mem_cons.mpr ⟨ah_L_42, (List.forall_mem_cons.mpr ⟨ah_L_43, (List.forall_mem_cons.mpr ⟨ah_L_44, (List.forall_mem_cons.mpr ⟨ah_L_45, (List.forall_mem_cons.mpr ⟨ah_L_46, (List.forall_mem_cons.mpr ⟨ah_L_47, (List.forall_mem_cons.mpr ⟨ah_L_48, (List.forall_mem_cons.mpr ⟨ah_L_49, (List.forall_mem_cons.mpr ⟨ah_L_50, (List.forall_mem_cons.mpr ⟨ah_L_51, (List.forall_mem_cons.mpr ⟨ah_L_52, (List.forall_mem_cons.mpr ⟨ah_L_53, (List.forall_mem_cons.mpr ⟨ah_L_54, (List.forall_mem_cons.mpr ⟨ah_L_55, (List.forall_mem_cons.mpr ⟨ah_L_56, (List.forall_mem_cons.mpr ⟨ah_L_57, (List.forall_mem_cons.mpr ⟨ah_L_58, (List.forall_mem_cons.mpr ⟨ah_L_59, (List.forall_mem_cons.mpr ⟨ah_L_60, (List.forall_mem_cons.mpr ⟨ah_L_61, (List.forall_mem_cons.mpr ⟨ah_L_62, (List.forall_mem_cons.mpr ⟨ah_L_63, (List.forall_mem_cons.mpr ⟨ah_L_64, (List.forall_mem_cons.mpr ⟨ah_L_65, (List.forall_mem_cons.mpr ⟨ah_L_66, (List.forall_mem_cons.mpr ⟨ah_L_67, (List.forall_mem_cons.mpr ⟨ah_L_68, (List.forall_mem_cons.mpr ⟨ah_L_69, (List.forall_mem_cons.mpr ⟨ah_L_70, (List.forall_mem_cons.mpr ⟨ah_L_71, (List.forall_mem_cons.mpr ⟨ah_L_72, (List.forall_mem_cons.mpr ⟨ah_L_73, (List.forall_mem_cons.mpr ⟨ah_L_74, (List.forall_mem_cons.mpr ⟨ah_L_75, (List.forall_mem_cons.mpr ⟨ah_L_76, (List.forall_mem_cons.mpr ⟨ah_L_77, (List.forall_mem_cons.mpr ⟨ah_L_78, (List.forall_mem_cons.mpr ⟨ah_L_79, (List.forall_mem_cons.mpr ⟨ah_L_80, (List.forall_mem_cons.mpr ⟨ah_L_81, (List.forall_mem_cons.mpr ⟨ah_L_82, (List.forall_mem_cons.mpr ⟨ah_L_83, (List.forall_mem_cons.mpr ⟨ah_L_84, (fun _ h => absurd h List.not_mem_nil)⟩)⟩)⟩)⟩)⟩)⟩)⟩)⟩)⟩)⟩)⟩)⟩)⟩)⟩)⟩)⟩)⟩)⟩)⟩)⟩)⟩)⟩)⟩)⟩)⟩)⟩)⟩)⟩)⟩)⟩)⟩)⟩)⟩)⟩)⟩)⟩)⟩)⟩)⟩)⟩)⟩)⟩)⟩)⟩)⟩)⟩)⟩)⟩)⟩)⟩)⟩)⟩)⟩)⟩)⟩)⟩)⟩)⟩)⟩)⟩)⟩)⟩)⟩)⟩)⟩)⟩)⟩)⟩)⟩)⟩)⟩)⟩)⟩)⟩)⟩)⟩)⟩)⟩)⟩)⟩)⟩)⟩)⟩)⟩)⟩)
theorem ck_L_d_0 : ∀ alt ∈ cq_L_0.2.2.2, rf_run nm_cl nm_ct en_xs 8 xx_L kc_L cu_L po_L (some .boolean) 1 0 98 16364 (some cq_L_0.2.2.1) 5000 true cq_L_0.1 alt = true := by
  have e1 : cq_L_0.2.2.2 = al_L_0 := by dsimp only [cq_L_0]
  have e2 : cq_L_0.2.2.1 = mu_L_0 := by dsimp only [cq_L_0]
  have e3 : cq_L_0.1 = 18 := by dsimp only [cq_L_0]
  rw [e1, e2, e3]
  exact rf_pcs (l := al_L_0) 1 ck_L_c_0 (List.isEmpty_iff.mp ck_L_n_0)
theorem ck_L_d_1 : ∀ alt ∈ cq_L_1.2.2.2, rf_run nm_cl nm_ct en_xs 8 xx_L kc_L cu_L po_L (some .boolean) 1 0 98 16364 (some cq_L_1.2.2.1) 5000 true cq_L_1.1 alt = true := by
  have e1 : cq_L_1.2.2.2 = al_L_1 := by dsimp only [cq_L_1]
  have e2 : cq_L_1.2.2.1 = mu_L_1 := by dsimp only [cq_L_1]
  have e3 : cq_L_1.1 = 204 := by dsimp only [cq_L_1]
  rw [e1, e2, e3]
  exact rf_pcs (l := al_L_1) 1 ck_L_c_1 (List.isEmpty_iff.mp ck_L_n_1)
theorem ck_L_d_2 : ∀ alt ∈ cq_L_2.2.2.2, rf_run nm_cl nm_ct en_xs 8 xx_L kc_L cu_L po_L (some .boolean) 1 0 98 16364 (some cq_L_2.2.2.1) 5000 true cq_L_2.1 alt = true := by
  have e1 : cq_L_2.2.2.2 = al_L_2 := by dsimp only [cq_L_2]
  have e2 : cq_L_2.2.2.1 = mu_L_2 := by dsimp only [cq_L_2]
  have e3 : cq_L_2.1 = 237 := by dsimp only [cq_L_2]
  rw [e1, e2, e3]
  exact rf_pcs (l := al_L_2) 1 ck_L_c_2 (List.isEmpty_iff.mp ck_L_n_2)
theorem ck_L_d_3 : ∀ alt ∈ cq_L_3.2.2.2, rf_run nm_cl nm_ct en_xs 8 xx_L kc_L cu_L po_L (some .boolean) 1 0 98 16364 (some cq_L_3.2.2.1) 5000 true cq_L_3.1 alt = true := by
  have e1 : cq_L_3.2.2.2 = al_L_3 := by dsimp only [cq_L_3]
  have e2 : cq_L_3.2.2.1 = mu_L_3 := by dsimp only [cq_L_3]
  have e3 : cq_L_3.1 = 280 := by dsimp only [cq_L_3]
  rw [e1, e2, e3]
  exact rf_pcs (l := al_L_3) 1 ck_L_c_3 (List.isEmpty_iff.mp ck_L_n_3)
theorem ck_L_d_4 : ∀ alt ∈ cq_L_4.2.2.2, rf_run nm_cl nm_ct en_xs 8 xx_L kc_L cu_L po_L (some .boolean) 1 0 98 16364 (some cq_L_4.2.2.1) 5000 true cq_L_4.1 alt = true := by
  have e1 : cq_L_4.2.2.2 = al_L_4 := by dsimp only [cq_L_4]
  have e2 : cq_L_4.2.2.1 = mu_L_4 := by dsimp only [cq_L_4]
  have e3 : cq_L_4.1 = 323 := by dsimp only [cq_L_4]
  rw [e1, e2, e3]
  exact rf_pcs (l := al_L_4) 1 ck_L_c_4 (List.isEmpty_iff.mp ck_L_n_4)
theorem ck_L_d_5 : ∀ alt ∈ cq_L_5.2.2.2, rf_run nm_cl nm_ct en_xs 8 xx_L kc_L cu_L po_L (some .boolean) 1 0 98 16364 (some cq_L_5.2.2.1) 5000 true cq_L_5.1 alt = true := by
  have e1 : cq_L_5.2.2.2 = al_L_5 := by dsimp only [cq_L_5]
  have e2 : cq_L_5.2.2.1 = mu_L_5 := by dsimp only [cq_L_5]
  have e3 : cq_L_5.1 = 356 := by dsimp only [cq_L_5]
  rw [e1, e2, e3]
  exact rf_pcs (l := al_L_5) 1 ck_L_c_5 (List.isEmpty_iff.mp ck_L_n_5)
theorem ck_L_d_6 : ∀ alt ∈ cq_L_6.2.2.2, rf_run nm_cl nm_ct en_xs 8 xx_L kc_L cu_L po_L (some .boolean) 1 0 98 16364 (some cq_L_6.2.2.1) 5000 true cq_L_6.1 alt = true := by
  have e1 : cq_L_6.2.2.2 = al_L_6 := by dsimp only [cq_L_6]
  have e2 : cq_L_6.2.2.1 = mu_L_6 := by dsimp only [cq_L_6]
  have e3 : cq_L_6.1 = 379 := by dsimp only [cq_L_6]
  rw [e1, e2, e3]
  exact rf_pcs (l := al_L_6) 1 ck_L_c_6 (List.isEmpty_iff.mp ck_L_n_6)
theorem ck_L_d_7 : ∀ alt ∈ cq_L_7.2.2.2, rf_run nm_cl nm_ct en_xs 8 xx_L kc_L cu_L po_L (some .boolean) 1 0 98 16364 (some cq_L_7.2.2.1) 5000 true cq_L_7.1 alt = true := by
  have e1 : cq_L_7.2.2.2 = al_L_7 := by dsimp only [cq_L_7]
  have e2 : cq_L_7.2.2.1 = mu_L_7 := by dsimp only [cq_L_7]
  have e3 : cq_L_7.1 = 392 := by dsimp only [cq_L_7]
  rw [e1, e2, e3]
  exact rf_pcs (l := al_L_7) 1 ck_L_c_7 (List.isEmpty_iff.mp ck_L_n_7)
theorem ck_L_d_8 : ∀ alt ∈ cq_L_8.2.2.2, rf_run nm_cl nm_ct en_xs 8 xx_L kc_L cu_L po_L (some .boolean) 1 0 98 16364 (some cq_L_8.2.2.1) 5000 true cq_L_8.1 alt = true := by
  have e1 : cq_L_8.2.2.2 = al_L_8 := by dsimp only [cq_L_8]
  have e2 : cq_L_8.2.2.1 = mu_L_8 := by dsimp only [cq_L_8]
  have e3 : cq_L_8.1 = 435 := by dsimp only [cq_L_8]
  rw [e1, e2, e3]
  exact rf_pcs (l := al_L_8) 1 ck_L_c_8 (List.isEmpty_iff.mp ck_L_n_8)
theorem ck_L_d_9 : ∀ alt ∈ cq_L_9.2.2.2, rf_run nm_cl nm_ct en_xs 8 xx_L kc_L cu_L po_L (some .boolean) 1 0 98 16364 (some cq_L_9.2.2.1) 5000 true cq_L_9.1 alt = true := by
  have e1 : cq_L_9.2.2.2 = al_L_9 := by dsimp only [cq_L_9]
  have e2 : cq_L_9.2.2.1 = mu_L_9 := by dsimp only [cq_L_9]
  have e3 : cq_L_9.1 = 468 := by dsimp only [cq_L_9]
  rw [e1, e2, e3]
  exact rf_pcs (l := al_L_9) 1 ck_L_c_9 (List.isEmpty_iff.mp ck_L_n_9)
theorem ck_L_d_10 : ∀ alt ∈ cq_L_10.2.2.2, rf_run nm_cl nm_ct en_xs 8 xx_L kc_L cu_L po_L (some .boolean) 1 0 98 16364 (some cq_L_10.2.2.1) 5000 true cq_L_10.1 alt = true := by
  have e1 : cq_L_10.2.2.2 = al_L_10 := by dsimp only [cq_L_10]
  have e2 : cq_L_10.2.2.1 = mu_L_10 := by dsimp only [cq_L_10]
  have e3 : cq_L_10.1 = 511 := by dsimp only [cq_L_10]
  rw [e1, e2, e3]
  exact rf_pcs (l := al_L_10) 1 ck_L_c_10 (List.isEmpty_iff.mp ck_L_n_10)
theorem ck_L_d_11 : ∀ alt ∈ cq_L_11.2.2.2, rf_run nm_cl nm_ct en_xs 8 xx_L kc_L cu_L po_L (some .boolean) 1 0 98 16364 (some cq_L_11.2.2.1) 5000 true cq_L_11.1 alt = true := by
  have e1 : cq_L_11.2.2.2 = al_L_11 := by dsimp only [cq_L_11]
  have e2 : cq_L_11.2.2.1 = mu_L_11 := by dsimp only [cq_L_11]
  have e3 : cq_L_11.1 = 534 := by dsimp only [cq_L_11]
  rw [e1, e2, e3]
  exact rf_pcs (l := al_L_11) 1 ck_L_c_11 (List.isEmpty_iff.mp ck_L_n_11)
theorem ck_L_d_12 : ∀ alt ∈ cq_L_12.2.2.2, rf_run nm_cl nm_ct en_xs 8 xx_L kc_L cu_L po_L (some .boolean) 1 0 98 16364 (some cq_L_12.2.2.1) 5000 true cq_L_12.1 alt = true := by
  have e1 : cq_L_12.2.2.2 = al_L_12 := by dsimp only [cq_L_12]
  have e2 : cq_L_12.2.2.1 = mu_L_12 := by dsimp only [cq_L_12]
  have e3 : cq_L_12.1 = 567 := by dsimp only [cq_L_12]
  rw [e1, e2, e3]
  exact rf_pcs (l := al_L_12) 1 ck_L_c_12 (List.isEmpty_iff.mp ck_L_n_12)
theorem ck_L_d_13 : ∀ alt ∈ cq_L_13.2.2.2, rf_run nm_cl nm_ct en_xs 8 xx_L kc_L cu_L po_L (some .boolean) 1 0 98 16364 (some cq_L_13.2.2.1) 5000 true cq_L_13.1 alt = true := by
  have e1 : cq_L_13.2.2.2 = al_L_13 := by dsimp only [cq_L_13]
  have e2 : cq_L_13.2.2.1 = mu_L_13 := by dsimp only [cq_L_13]
  have e3 : cq_L_13.1 = 610 := by dsimp only [cq_L_13]
  rw [e1, e2, e3]
  exact rf_pcs (l := al_L_13) 1 ck_L_c_13 (List.isEmpty_iff.mp ck_L_n_13)
theorem ck_L_d_14 : ∀ alt ∈ cq_L_14.2.2.2, rf_run nm_cl nm_ct en_xs 8 xx_L kc_L cu_L po_L (some .boolean) 1 0 98 16364 (some cq_L_14.2.2.1) 5000 true cq_L_14.1 alt = true := by
  have e1 : cq_L_14.2.2.2 = al_L_14 := by dsimp only [cq_L_14]
  have e2 : cq_L_14.2.2.1 = mu_L_14 := by dsimp only [cq_L_14]
  have e3 : cq_L_14.1 = 643 := by dsimp only [cq_L_14]
  rw [e1, e2, e3]
  exact rf_pcs (l := al_L_14) 1 ck_L_c_14 (List.isEmpty_iff.mp ck_L_n_14)
theorem ck_L_d_15 : ∀ alt ∈ cq_L_15.2.2.2, rf_run nm_cl nm_ct en_xs 8 xx_L kc_L cu_L po_L (some .boolean) 1 0 98 16364 (some cq_L_15.2.2.1) 5000 true cq_L_15.1 alt = true := by
  have e1 : cq_L_15.2.2.2 = al_L_15 := by dsimp only [cq_L_15]
  have e2 : cq_L_15.2.2.1 = mu_L_15 := by dsimp only [cq_L_15]
  have e3 : cq_L_15.1 = 676 := by dsimp only [cq_L_15]
  rw [e1, e2, e3]
  exact rf_pcs (l := al_L_15) 1 ck_L_c_15 (List.isEmpty_iff.mp ck_L_n_15)
theorem ck_L_d_16 : ∀ alt ∈ cq_L_16.2.2.2, rf_run nm_cl nm_ct en_xs 8 xx_L kc_L cu_L po_L (some .boolean) 1 0 98 16364 (some cq_L_16.2.2.1) 5000 true cq_L_16.1 alt = true := by
  have e1 : cq_L_16.2.2.2 = al_L_16 := by dsimp only [cq_L_16]
  have e2 : cq_L_16.2.2.1 = mu_L_16 := by dsimp only [cq_L_16]
  have e3 : cq_L_16.1 = 709 := by dsimp only [cq_L_16]
  rw [e1, e2, e3]
  exact rf_pcs (l := al_L_16) 1 ck_L_c_16 (List.isEmpty_iff.mp ck_L_n_16)
theorem ck_L_d_17 : ∀ alt ∈ cq_L_17.2.2.2, rf_run nm_cl nm_ct en_xs 8 xx_L kc_L cu_L po_L (some .boolean) 1 0 98 16364 (some cq_L_17.2.2.1) 5000 true cq_L_17.1 alt = true := by
  have e1 : cq_L_17.2.2.2 = al_L_17 := by dsimp only [cq_L_17]
  have e2 : cq_L_17.2.2.1 = mu_L_17 := by dsimp only [cq_L_17]
  have e3 : cq_L_17.1 = 742 := by dsimp only [cq_L_17]
  rw [e1, e2, e3]
  exact rf_pcs (l := al_L_17) 1 ck_L_c_17 (List.isEmpty_iff.mp ck_L_n_17)
theorem ck_L_d_18 : ∀ alt ∈ cq_L_18.2.2.2, rf_run nm_cl nm_ct en_xs 8 xx_L kc_L cu_L po_L (some .boolean) 1 0 98 16364 (some cq_L_18.2.2.1) 5000 true cq_L_18.1 alt = true := by
  have e1 : cq_L_18.2.2.2 = al_L_18 := by dsimp only [cq_L_18]
  have e2 : cq_L_18.2.2.1 = mu_L_18 := by dsimp only [cq_L_18]
  have e3 : cq_L_18.1 = 785 := by dsimp only [cq_L_18]
  rw [e1, e2, e3]
  exact rf_pcs (l := al_L_18) 1 ck_L_c_18 (List.isEmpty_iff.mp ck_L_n_18)
theorem ck_L_d_19 : ∀ alt ∈ cq_L_19.2.2.2, rf_run nm_cl nm_ct en_xs 8 xx_L kc_L cu_L po_L (some .boolean) 1 0 98 16364 (some cq_L_19.2.2.1) 5000 true cq_L_19.1 alt = true := by
  have e1 : cq_L_19.2.2.2 = al_L_19 := by dsimp only [cq_L_19]
  have e2 : cq_L_19.2.2.1 = mu_L_19 := by dsimp only [cq_L_19]
  have e3 : cq_L_19.1 = 818 := by dsimp only [cq_L_19]
  rw [e1, e2, e3]
  exact rf_pcs (l := al_L_19) 1 ck_L_c_19 (List.isEmpty_iff.mp ck_L_n_19)
theorem ck_L_d_20 : ∀ alt ∈ cq_L_20.2.2.2, rf_run nm_cl nm_ct en_xs 8 xx_L kc_L cu_L po_L (some .boolean) 1 0 98 16364 (some cq_L_20.2.2.1) 5000 true cq_L_20.1 alt = true := by
  have e1 : cq_L_20.2.2.2 = al_L_20 := by dsimp only [cq_L_20]
  have e2 : cq_L_20.2.2.1 = mu_L_20 := by dsimp only [cq_L_20]
  have e3 : cq_L_20.1 = 851 := by dsimp only [cq_L_20]
  rw [e1, e2, e3]
  exact rf_pcs (l := al_L_20) 1 ck_L_c_20 (List.isEmpty_iff.mp ck_L_n_20)
theorem ck_L_d_21 : ∀ alt ∈ cq_L_21.2.2.2, rf_run nm_cl nm_ct en_xs 8 xx_L kc_L cu_L po_L (some .boolean) 1 0 98 16364 (some cq_L_21.2.2.1) 5000 true cq_L_21.1 alt = true := by
  have e1 : cq_L_21.2.2.2 = al_L_21 := by dsimp only [cq_L_21]
  have e2 : cq_L_21.2.2.1 = mu_L_21 := by dsimp only [cq_L_21]
  have e3 : cq_L_21.1 = 894 := by dsimp only [cq_L_21]
  rw [e1, e2, e3]
  exact rf_pcs (l := al_L_21) 1 ck_L_c_21 (List.isEmpty_iff.mp ck_L_n_21)
theorem ck_L_d_22 : ∀ alt ∈ cq_L_22.2.2.2, rf_run nm_cl nm_ct en_xs 8 xx_L kc_L cu_L po_L (some .boolean) 1 0 98 16364 (some cq_L_22.2.2.1) 5000 true cq_L_22.1 alt = true := by
  have e1 : cq_L_22.2.2.2 = al_L_22 := by dsimp only [cq_L_22]
  have e2 : cq_L_22.2.2.1 = mu_L_22 := by dsimp only [cq_L_22]
  have e3 : cq_L_22.1 = 937 := by dsimp only [cq_L_22]
  rw [e1, e2, e3]
  exact rf_pcs (l := al_L_22) 1 ck_L_c_22 (List.isEmpty_iff.mp ck_L_n_22)
theorem ck_L_d_23 : ∀ alt ∈ cq_L_23.2.2.2, rf_run nm_cl nm_ct en_xs 8 xx_L kc_L cu_L po_L (some .boolean) 1 0 98 16364 (some cq_L_23.2.2.1) 5000 true cq_L_23.1 alt = true := by
  have e1 : cq_L_23.2.2.2 = al_L_23 := by dsimp only [cq_L_23]
  have e2 : cq_L_23.2.2.1 = mu_L_23 := by dsimp only [cq_L_23]
  have e3 : cq_L_23.1 = 960 := by dsimp only [cq_L_23]
  rw [e1, e2, e3]
  exact rf_pcs (l := al_L_23) 1 ck_L_c_23 (List.isEmpty_iff.mp ck_L_n_23)
theorem ck_L_d_24 : ∀ alt ∈ cq_L_24.2.2.2, rf_run nm_cl nm_ct en_xs 8 xx_L kc_L cu_L po_L (some .boolean) 1 0 98 16364 (some cq_L_24.2.2.1) 5000 true cq_L_24.1 alt = true := by
  have e1 : cq_L_24.2.2.2 = al_L_24 := by dsimp only [cq_L_24]
  have e2 : cq_L_24.2.2.1 = mu_L_24 := by dsimp only [cq_L_24]
  have e3 : cq_L_24.1 = 993 := by dsimp only [cq_L_24]
  rw [e1, e2, e3]
  exact rf_pcs (l := al_L_24) 1 ck_L_c_24 (List.isEmpty_iff.mp ck_L_n_24)
theorem ck_L_d_25 : ∀ alt ∈ cq_L_25.2.2.2, rf_run nm_cl nm_ct en_xs 8 xx_L kc_L cu_L po_L (some .boolean) 1 0 98 16364 (some cq_L_25.2.2.1) 5000 true cq_L_25.1 alt = true := by
  have e1 : cq_L_25.2.2.2 = al_L_25 := by dsimp only [cq_L_25]
  have e2 : cq_L_25.2.2.1 = mu_L_25 := by dsimp only [cq_L_25]
  have e3 : cq_L_25.1 = 1016 := by dsimp only [cq_L_25]
  rw [e1, e2, e3]
  exact rf_pcs (l := al_L_25) 1 ck_L_c_25 (List.isEmpty_iff.mp ck_L_n_25)
theorem ck_L_d_26 : ∀ alt ∈ cq_L_26.2.2.2, rf_run nm_cl nm_ct en_xs 8 xx_L kc_L cu_L po_L (some .boolean) 1 0 98 16364 (some cq_L_26.2.2.1) 5000 true cq_L_26.1 alt = true := by
  have e1 : cq_L_26.2.2.2 = al_L_26 := by dsimp only [cq_L_26]
  have e2 : cq_L_26.2.2.1 = mu_L_26 := by dsimp only [cq_L_26]
  have e3 : cq_L_26.1 = 1039 := by dsimp only [cq_L_26]
  rw [e1, e2, e3]
  exact rf_pcs (l := al_L_26) 1 ck_L_c_26 (List.isEmpty_iff.mp ck_L_n_26)
theorem ck_L_d_27 : ∀ alt ∈ cq_L_27.2.2.2, rf_run nm_cl nm_ct en_xs 8 xx_L kc_L cu_L po_L (some .boolean) 1 0 98 16364 (some cq_L_27.2.2.1) 5000 true cq_L_27.1 alt = true := by
  have e1 : cq_L_27.2.2.2 = al_L_27 := by dsimp only [cq_L_27]
  have e2 : cq_L_27.2.2.1 = mu_L_27 := by dsimp only [cq_L_27]
  have e3 : cq_L_27.1 = 1052 := by dsimp only [cq_L_27]
  rw [e1, e2, e3]
  exact rf_pcs (l := al_L_27) 1 ck_L_c_27 (List.isEmpty_iff.mp ck_L_n_27)
theorem ck_L_d_28 : ∀ alt ∈ cq_L_28.2.2.2, rf_run nm_cl nm_ct en_xs 8 xx_L kc_L cu_L po_L (some .boolean) 1 0 98 16364 (some cq_L_28.2.2.1) 5000 true cq_L_28.1 alt = true := by
  have e1 : cq_L_28.2.2.2 = al_L_28 := by dsimp only [cq_L_28]
  have e2 : cq_L_28.2.2.1 = mu_L_28 := by dsimp only [cq_L_28]
  have e3 : cq_L_28.1 = 1065 := by dsimp only [cq_L_28]
  rw [e1, e2, e3]
  exact rf_pcs (l := al_L_28) 1 ck_L_c_28 (List.isEmpty_iff.mp ck_L_n_28)
theorem ck_L_d_29 : ∀ alt ∈ cq_L_29.2.2.2, rf_run nm_cl nm_ct en_xs 8 xx_L kc_L cu_L po_L (some .boolean) 1 0 98 16364 (some cq_L_29.2.2.1) 5000 true cq_L_29.1 alt = true := by
  have e1 : cq_L_29.2.2.2 = al_L_29 := by dsimp only [cq_L_29]
  have e2 : cq_L_29.2.2.1 = mu_L_29 := by dsimp only [cq_L_29]
  have e3 : cq_L_29.1 = 1078 := by dsimp only [cq_L_29]
  rw [e1, e2, e3]
  exact rf_pcs (l := al_L_29) 1 ck_L_c_29 (List.isEmpty_iff.mp ck_L_n_29)
theorem ck_L_d_30 : ∀ alt ∈ cq_L_30.2.2.2, rf_run nm_cl nm_ct en_xs 8 xx_L kc_L cu_L po_L (some .boolean) 1 0 98 16364 (some cq_L_30.2.2.1) 5000 true cq_L_30.1 alt = true := by
  have e1 : cq_L_30.2.2.2 = al_L_30 := by dsimp only [cq_L_30]
  have e2 : cq_L_30.2.2.1 = mu_L_30 := by dsimp only [cq_L_30]
  have e3 : cq_L_30.1 = 1091 := by dsimp only [cq_L_30]
  rw [e1, e2, e3]
  exact rf_pcs (l := al_L_30) 1 ck_L_c_30 (List.isEmpty_iff.mp ck_L_n_30)
theorem ck_L_d_31 : ∀ alt ∈ cq_L_31.2.2.2, rf_run nm_cl nm_ct en_xs 8 xx_L kc_L cu_L po_L (some .boolean) 1 0 98 16364 (some cq_L_31.2.2.1) 5000 true cq_L_31.1 alt = true := by
  have e1 : cq_L_31.2.2.2 = al_L_31 := by dsimp only [cq_L_31]
  have e2 : cq_L_31.2.2.1 = mu_L_31 := by dsimp only [cq_L_31]
  have e3 : cq_L_31.1 = 1110 := by dsimp only [cq_L_31]
  rw [e1, e2, e3]
  exact rf_pcs (l := al_L_31) 1 ck_L_c_31 (List.isEmpty_iff.mp ck_L_n_31)
theorem ck_L_d_32 : ∀ alt ∈ cq_L_32.2.2.2, rf_run nm_cl nm_ct en_xs 8 xx_L kc_L cu_L po_L (some .boolean) 1 0 98 16364 (some cq_L_32.2.2.1) 5000 true cq_L_32.1 alt = true := by
  have e1 : cq_L_32.2.2.2 = al_L_32 := by dsimp only [cq_L_32]
  have e2 : cq_L_32.2.2.1 = mu_L_32 := by dsimp only [cq_L_32]
  have e3 : cq_L_32.1 = 1110 := by dsimp only [cq_L_32]
  rw [e1, e2, e3]
  exact rf_pcs (l := al_L_32) 1 ck_L_c_32 (List.isEmpty_iff.mp ck_L_n_32)
theorem ck_L_d_33 : ∀ alt ∈ cq_L_33.2.2.2, rf_run nm_cl nm_ct en_xs 8 xx_L kc_L cu_L po_L (some .boolean) 1 0 98 16364 (some cq_L_33.2.2.1) 5000 true cq_L_33.1 alt = true := by
  have e1 : cq_L_33.2.2.2 = al_L_33 := by dsimp only [cq_L_33]
  have e2 : cq_L_33.2.2.1 = mu_L_33 := by dsimp only [cq_L_33]
  have e3 : cq_L_33.1 = 1110 := by dsimp only [cq_L_33]
  rw [e1, e2, e3]
  exact rf_pcs (l := al_L_33) 1 ck_L_c_33 (List.isEmpty_iff.mp ck_L_n_33)
theorem ck_L_d_34 : ∀ alt ∈ cq_L_34.2.2.2, rf_run nm_cl nm_ct en_xs 8 xx_L kc_L cu_L po_L (some .boolean) 1 0 98 16364 (some cq_L_34.2.2.1) 5000 true cq_L_34.1 alt = true := by
  have e1 : cq_L_34.2.2.2 = al_L_34 := by dsimp only [cq_L_34]
  have e2 : cq_L_34.2.2.1 = mu_L_34 := by dsimp only [cq_L_34]
  have e3 : cq_L_34.1 = 1114 := by dsimp only [cq_L_34]
  rw [e1, e2, e3]
  exact rf_pcs (l := al_L_34) 1 ck_L_c_34 (List.isEmpty_iff.mp ck_L_n_34)
theorem ck_L_d_35 : ∀ alt ∈ cq_L_35.2.2.2, rf_run nm_cl nm_ct en_xs 8 xx_L kc_L cu_L po_L (some .boolean) 1 0 98 16364 (some cq_L_35.2.2.1) 5000 true cq_L_35.1 alt = true := by
  have e1 : cq_L_35.2.2.2 = al_L_35 := by dsimp only [cq_L_35]
  have e2 : cq_L_35.2.2.1 = mu_L_35 := by dsimp only [cq_L_35]
  have e3 : cq_L_35.1 = 1152 := by dsimp only [cq_L_35]
  rw [e1, e2, e3]
  exact rf_pcs (l := al_L_35) 1 ck_L_c_35 (List.isEmpty_iff.mp ck_L_n_35)
theorem ck_L_d_36 : ∀ alt ∈ cq_L_36.2.2.2, rf_run nm_cl nm_ct en_xs 8 xx_L kc_L cu_L po_L (some .boolean) 1 0 98 16364 (some cq_L_36.2.2.1) 5000 true cq_L_36.1 alt = true := by
  have e1 : cq_L_36.2.2.2 = al_L_36 := by dsimp only [cq_L_36]
  have e2 : cq_L_36.2.2.1 = mu_L_36 := by dsimp only [cq_L_36]
  have e3 : cq_L_36.1 = 1152 := by dsimp only [cq_L_36]
  rw [e1, e2, e3]
  exact rf_pcs (l := al_L_36) 1 ck_L_c_36 (List.isEmpty_iff.mp ck_L_n_36)
theorem ck_L_d_37 : ∀ alt ∈ cq_L_37.2.2.2, rf_run nm_cl nm_ct en_xs 8 xx_L kc_L cu_L po_L (some .boolean) 1 0 98 16364 (some cq_L_37.2.2.1) 5000 true cq_L_37.1 alt = true := by
  have e1 : cq_L_37.2.2.2 = al_L_37 := by dsimp only [cq_L_37]
  have e2 : cq_L_37.2.2.1 = mu_L_37 := by dsimp only [cq_L_37]
  have e3 : cq_L_37.1 = 1152 := by dsimp only [cq_L_37]
  rw [e1, e2, e3]
  exact rf_pcs (l := al_L_37) 1 ck_L_c_37 (List.isEmpty_iff.mp ck_L_n_37)
theorem ck_L_d_38 : ∀ alt ∈ cq_L_38.2.2.2, rf_run nm_cl nm_ct en_xs 8 xx_L kc_L cu_L po_L (some .boolean) 1 0 98 16364 (some cq_L_38.2.2.1) 5000 true cq_L_38.1 alt = true := by
  have e1 : cq_L_38.2.2.2 = al_L_38 := by dsimp only [cq_L_38]
  have e2 : cq_L_38.2.2.1 = mu_L_38 := by dsimp only [cq_L_38]
  have e3 : cq_L_38.1 = 1152 := by dsimp only [cq_L_38]
  rw [e1, e2, e3]
  exact rf_pcs (l := al_L_38) 1 ck_L_c_38 (List.isEmpty_iff.mp ck_L_n_38)
theorem ck_L_d_39 : ∀ alt ∈ cq_L_39.2.2.2, rf_run nm_cl nm_ct en_xs 8 xx_L kc_L cu_L po_L (some .boolean) 1 0 98 16364 (some cq_L_39.2.2.1) 5000 true cq_L_39.1 alt = true := by
  have e1 : cq_L_39.2.2.2 = al_L_39 := by dsimp only [cq_L_39]
  have e2 : cq_L_39.2.2.1 = mu_L_39 := by dsimp only [cq_L_39]
  have e3 : cq_L_39.1 = 1152 := by dsimp only [cq_L_39]
  rw [e1, e2, e3]
  exact rf_pcs (l := al_L_39) 1 ck_L_c_39 (List.isEmpty_iff.mp ck_L_n_39)
theorem ck_L_d_40 : ∀ alt ∈ cq_L_40.2.2.2, rf_run nm_cl nm_ct en_xs 8 xx_L kc_L cu_L po_L (some .boolean) 1 0 98 16364 (some cq_L_40.2.2.1) 5000 true cq_L_40.1 alt = true := by
  have e1 : cq_L_40.2.2.2 = al_L_40 := by dsimp only [cq_L_40]
  have e2 : cq_L_40.2.2.1 = mu_L_40 := by dsimp only [cq_L_40]
  have e3 : cq_L_40.1 = 1152 := by dsimp only [cq_L_40]
  rw [e1, e2, e3]
  exact rf_pcs (l := al_L_40) 1 ck_L_c_40 (List.isEmpty_iff.mp ck_L_n_40)
theorem ck_L_d_41 : ∀ alt ∈ cq_L_41.2.2.2, rf_run nm_cl nm_ct en_xs 8 xx_L kc_L cu_L po_L (some .boolean) 1 0 98 16364 (some cq_L_41.2.2.1) 5000 true cq_L_41.1 alt = true := by
  have e1 : cq_L_41.2.2.2 = al_L_41 := by dsimp only [cq_L_41]
  have e2 : cq_L_41.2.2.1 = mu_L_41 := by dsimp only [cq_L_41]
  have e3 : cq_L_41.1 = 1152 := by dsimp only [cq_L_41]
  rw [e1, e2, e3]
  exact rf_pcs (l := al_L_41) 1 ck_L_c_41 (List.isEmpty_iff.mp ck_L_n_41)
theorem ck_L_d_42 : ∀ alt ∈ cq_L_42.2.2.2, rf_run nm_cl nm_ct en_xs 8 xx_L kc_L cu_L po_L (some .boolean) 1 0 98 16364 (some cq_L_42.2.2.1) 5000 true cq_L_42.1 alt = true := by
  have e1 : cq_L_42.2.2.2 = al_L_42 := by dsimp only [cq_L_42]
  have e2 : cq_L_42.2.2.1 = mu_L_42 := by dsimp only [cq_L_42]
  have e3 : cq_L_42.1 = 1152 := by dsimp only [cq_L_42]
  rw [e1, e2, e3]
  exact rf_pcs (l := al_L_42) 1 ck_L_c_42 (List.isEmpty_iff.mp ck_L_n_42)
theorem ck_L_d_43 : ∀ alt ∈ cq_L_43.2.2.2, rf_run nm_cl nm_ct en_xs 8 xx_L kc_L cu_L po_L (some .boolean) 1 0 98 16364 (some cq_L_43.2.2.1) 5000 true cq_L_43.1 alt = true := by
  have e1 : cq_L_43.2.2.2 = al_L_43 := by dsimp only [cq_L_43]
  have e2 : cq_L_43.2.2.1 = mu_L_43 := by dsimp only [cq_L_43]
  have e3 : cq_L_43.1 = 1152 := by dsimp only [cq_L_43]
  rw [e1, e2, e3]
  exact rf_pcs (l := al_L_43) 1 ck_L_c_43 (List.isEmpty_iff.mp ck_L_n_43)
theorem ck_L_d_44 : ∀ alt ∈ cq_L_44.2.2.2, rf_run nm_cl nm_ct en_xs 8 xx_L kc_L cu_L po_L (some .boolean) 1 0 98 16364 (some cq_L_44.2.2.1) 5000 true cq_L_44.1 alt = true := by
  have e1 : cq_L_44.2.2.2 = al_L_44 := by dsimp only [cq_L_44]
  have e2 : cq_L_44.2.2.1 = mu_L_44 := by dsimp only [cq_L_44]
  have e3 : cq_L_44.1 = 1152 := by dsimp only [cq_L_44]
  rw [e1, e2, e3]
  exact rf_pcs (l := al_L_44) 1 ck_L_c_44 (List.isEmpty_iff.mp ck_L_n_44)
theorem ck_L_d_45 : ∀ alt ∈ cq_L_45.2.2.2, rf_run nm_cl nm_ct en_xs 8 xx_L kc_L cu_L po_L (some .boolean) 1 0 98 16364 (some cq_L_45.2.2.1) 5000 true cq_L_45.1 alt = true := by
  have e1 : cq_L_45.2.2.2 = al_L_45 := by dsimp only [cq_L_45]
  have e2 : cq_L_45.2.2.1 = mu_L_45 := by dsimp only [cq_L_45]
  have e3 : cq_L_45.1 = 1152 := by dsimp only [cq_L_45]
  rw [e1, e2, e3]
  exact rf_pcs (l := al_L_45) 1 ck_L_c_45 (List.isEmpty_iff.mp ck_L_n_45)
theorem ck_L_d_46 : ∀ alt ∈ cq_L_46.2.2.2, rf_run nm_cl nm_ct en_xs 8 xx_L kc_L cu_L po_L (some .boolean) 1 0 98 16364 (some cq_L_46.2.2.1) 5000 true cq_L_46.1 alt = true := by
  have e1 : cq_L_46.2.2.2 = al_L_46 := by dsimp only [cq_L_46]
  have e2 : cq_L_46.2.2.1 = mu_L_46 := by dsimp only [cq_L_46]
  have e3 : cq_L_46.1 = 1152 := by dsimp only [cq_L_46]
  rw [e1, e2, e3]
  exact rf_pcs (l := al_L_46) 1 ck_L_c_46 (List.isEmpty_iff.mp ck_L_n_46)
theorem ck_L_d_47 : ∀ alt ∈ cq_L_47.2.2.2, rf_run nm_cl nm_ct en_xs 8 xx_L kc_L cu_L po_L (some .boolean) 1 0 98 16364 (some cq_L_47.2.2.1) 5000 true cq_L_47.1 alt = true := by
  have e1 : cq_L_47.2.2.2 = al_L_47 := by dsimp only [cq_L_47]
  have e2 : cq_L_47.2.2.1 = mu_L_47 := by dsimp only [cq_L_47]
  have e3 : cq_L_47.1 = 1152 := by dsimp only [cq_L_47]
  rw [e1, e2, e3]
  exact rf_pcs (l := al_L_47) 1 ck_L_c_47 (List.isEmpty_iff.mp ck_L_n_47)
theorem ck_L_d_48 : ∀ alt ∈ cq_L_48.2.2.2, rf_run nm_cl nm_ct en_xs 8 xx_L kc_L cu_L po_L (some .boolean) 1 0 98 16364 (some cq_L_48.2.2.1) 5000 true cq_L_48.1 alt = true := by
  have e1 : cq_L_48.2.2.2 = al_L_48 := by dsimp only [cq_L_48]
  have e2 : cq_L_48.2.2.1 = mu_L_48 := by dsimp only [cq_L_48]
  have e3 : cq_L_48.1 = 1152 := by dsimp only [cq_L_48]
  rw [e1, e2, e3]
  exact rf_pcs (l := al_L_48) 1 ck_L_c_48 (List.isEmpty_iff.mp ck_L_n_48)
theorem ck_L_d_49 : ∀ alt ∈ cq_L_49.2.2.2, rf_run nm_cl nm_ct en_xs 8 xx_L kc_L cu_L po_L (some .boolean) 1 0 98 16364 (some cq_L_49.2.2.1) 5000 true cq_L_49.1 alt = true := by
  have e1 : cq_L_49.2.2.2 = al_L_49 := by dsimp only [cq_L_49]
  have e2 : cq_L_49.2.2.1 = mu_L_49 := by dsimp only [cq_L_49]
  have e3 : cq_L_49.1 = 1152 := by dsimp only [cq_L_49]
  rw [e1, e2, e3]
  exact rf_pcs (l := al_L_49) 1 ck_L_c_49 (List.isEmpty_iff.mp ck_L_n_49)
theorem ck_L_d_50 : ∀ alt ∈ cq_L_50.2.2.2, rf_run nm_cl nm_ct en_xs 8 xx_L kc_L cu_L po_L (some .boolean) 1 0 98 16364 (some cq_L_50.2.2.1) 5000 true cq_L_50.1 alt = true := by
  have e1 : cq_L_50.2.2.2 = al_L_50 := by dsimp only [cq_L_50]
  have e2 : cq_L_50.2.2.1 = mu_L_50 := by dsimp only [cq_L_50]
  have e3 : cq_L_50.1 = 1152 := by dsimp only [cq_L_50]
  rw [e1, e2, e3]
  exact rf_pcs (l := al_L_50) 1 ck_L_c_50 (List.isEmpty_iff.mp ck_L_n_50)
theorem ck_L_d_51 : ∀ alt ∈ cq_L_51.2.2.2, rf_run nm_cl nm_ct en_xs 8 xx_L kc_L cu_L po_L (some .boolean) 1 0 98 16364 (some cq_L_51.2.2.1) 5000 true cq_L_51.1 alt = true := by
  have e1 : cq_L_51.2.2.2 = al_L_51 := by dsimp only [cq_L_51]
  have e2 : cq_L_51.2.2.1 = mu_L_51 := by dsimp only [cq_L_51]
  have e3 : cq_L_51.1 = 1152 := by dsimp only [cq_L_51]
  rw [e1, e2, e3]
  exact rf_pcs (l := al_L_51) 1 ck_L_c_51 (List.isEmpty_iff.mp ck_L_n_51)
theorem ck_L_d_52 : ∀ alt ∈ cq_L_52.2.2.2, rf_run nm_cl nm_ct en_xs 8 xx_L kc_L cu_L po_L (some .boolean) 1 0 98 16364 (some cq_L_52.2.2.1) 5000 true cq_L_52.1 alt = true := by
  have e1 : cq_L_52.2.2.2 = al_L_52 := by dsimp only [cq_L_52]
  have e2 : cq_L_52.2.2.1 = mu_L_52 := by dsimp only [cq_L_52]
  have e3 : cq_L_52.1 = 1152 := by dsimp only [cq_L_52]
  rw [e1, e2, e3]
  exact rf_pcs (l := al_L_52) 1 ck_L_c_52 (List.isEmpty_iff.mp ck_L_n_52)
theorem ck_L_d_53 : ∀ alt ∈ cq_L_53.2.2.2, rf_run nm_cl nm_ct en_xs 8 xx_L kc_L cu_L po_L (some .boolean) 1 0 98 16364 (some cq_L_53.2.2.1) 5000 true cq_L_53.1 alt = true := by
  have e1 : cq_L_53.2.2.2 = al_L_53 := by dsimp only [cq_L_53]
  have e2 : cq_L_53.2.2.1 = mu_L_53 := by dsimp only [cq_L_53]
  have e3 : cq_L_53.1 = 1152 := by dsimp only [cq_L_53]
  rw [e1, e2, e3]
  exact rf_pcs (l := al_L_53) 1 ck_L_c_53 (List.isEmpty_iff.mp ck_L_n_53)
theorem ck_L_d_54 : ∀ alt ∈ cq_L_54.2.2.2, rf_run nm_cl nm_ct en_xs 8 xx_L kc_L cu_L po_L (some .boolean) 1 0 98 16364 (some cq_L_54.2.2.1) 5000 true cq_L_54.1 alt = true := by
  have e1 : cq_L_54.2.2.2 = al_L_54 := by dsimp only [cq_L_54]
  have e2 : cq_L_54.2.2.1 = mu_L_54 := by dsimp only [cq_L_54]
  have e3 : cq_L_54.1 = 1152 := by dsimp only [cq_L_54]
  rw [e1, e2, e3]
  exact rf_pcs (l := al_L_54) 1 ck_L_c_54 (List.isEmpty_iff.mp ck_L_n_54)
theorem ck_L_d_55 : ∀ alt ∈ cq_L_55.2.2.2, rf_run nm_cl nm_ct en_xs 8 xx_L kc_L cu_L po_L (some .boolean) 1 0 98 16364 (some cq_L_55.2.2.1) 5000 true cq_L_55.1 alt = true := by
  have e1 : cq_L_55.2.2.2 = al_L_55 := by dsimp only [cq_L_55]
  have e2 : cq_L_55.2.2.1 = mu_L_55 := by dsimp only [cq_L_55]
  have e3 : cq_L_55.1 = 1152 := by dsimp only [cq_L_55]
  rw [e1, e2, e3]
  exact rf_pcs (l := al_L_55) 1 ck_L_c_55 (List.isEmpty_iff.mp ck_L_n_55)
theorem ck_L_d_56 : ∀ alt ∈ cq_L_56.2.2.2, rf_run nm_cl nm_ct en_xs 8 xx_L kc_L cu_L po_L (some .boolean) 1 0 98 16364 (some cq_L_56.2.2.1) 5000 true cq_L_56.1 alt = true := by
  have e1 : cq_L_56.2.2.2 = al_L_56 := by dsimp only [cq_L_56]
  have e2 : cq_L_56.2.2.1 = mu_L_56 := by dsimp only [cq_L_56]
  have e3 : cq_L_56.1 = 1152 := by dsimp only [cq_L_56]
  rw [e1, e2, e3]
  exact rf_pcs (l := al_L_56) 1 ck_L_c_56 (List.isEmpty_iff.mp ck_L_n_56)
theorem ck_L_d_57 : ∀ alt ∈ cq_L_57.2.2.2, rf_run nm_cl nm_ct en_xs 8 xx_L kc_L cu_L po_L (some .boolean) 1 0 98 16364 (some cq_L_57.2.2.1) 5000 true cq_L_57.1 alt = true := by
  have e1 : cq_L_57.2.2.2 = al_L_57 := by dsimp only [cq_L_57]
  have e2 : cq_L_57.2.2.1 = mu_L_57 := by dsimp only [cq_L_57]
  have e3 : cq_L_57.1 = 1152 := by dsimp only [cq_L_57]
  rw [e1, e2, e3]
  exact rf_pcs (l := al_L_57) 1 ck_L_c_57 (List.isEmpty_iff.mp ck_L_n_57)
theorem ck_L_d_58 : ∀ alt ∈ cq_L_58.2.2.2, rf_run nm_cl nm_ct en_xs 8 xx_L kc_L cu_L po_L (some .boolean) 1 0 98 16364 (some cq_L_58.2.2.1) 5000 true cq_L_58.1 alt = true := by
  have e1 : cq_L_58.2.2.2 = al_L_58 := by dsimp only [cq_L_58]
  have e2 : cq_L_58.2.2.1 = mu_L_58 := by dsimp only [cq_L_58]
  have e3 : cq_L_58.1 = 1152 := by dsimp only [cq_L_58]
  rw [e1, e2, e3]
  exact rf_pcs (l := al_L_58) 1 ck_L_c_58 (List.isEmpty_iff.mp ck_L_n_58)
theorem ck_L_d_59 : ∀ alt ∈ cq_L_59.2.2.2, rf_run nm_cl nm_ct en_xs 8 xx_L kc_L cu_L po_L (some .boolean) 1 0 98 16364 (some cq_L_59.2.2.1) 5000 true cq_L_59.1 alt = true := by
  have e1 : cq_L_59.2.2.2 = al_L_59 := by dsimp only [cq_L_59]
  have e2 : cq_L_59.2.2.1 = mu_L_59 := by dsimp only [cq_L_59]
  have e3 : cq_L_59.1 = 1152 := by dsimp only [cq_L_59]
  rw [e1, e2, e3]
  exact rf_pcs (l := al_L_59) 1 ck_L_c_59 (List.isEmpty_iff.mp ck_L_n_59)
theorem ck_L_d_60 : ∀ alt ∈ cq_L_60.2.2.2, rf_run nm_cl nm_ct en_xs 8 xx_L kc_L cu_L po_L (some .boolean) 1 0 98 16364 (some cq_L_60.2.2.1) 5000 true cq_L_60.1 alt = true := by
  have e1 : cq_L_60.2.2.2 = al_L_60 := by dsimp only [cq_L_60]
  have e2 : cq_L_60.2.2.1 = mu_L_60 := by dsimp only [cq_L_60]
  have e3 : cq_L_60.1 = 1152 := by dsimp only [cq_L_60]
  rw [e1, e2, e3]
  exact rf_pcs (l := al_L_60) 1 ck_L_c_60 (List.isEmpty_iff.mp ck_L_n_60)
theorem ck_L_d_61 : ∀ alt ∈ cq_L_61.2.2.2, rf_run nm_cl nm_ct en_xs 8 xx_L kc_L cu_L po_L (some .boolean) 1 0 98 16364 (some cq_L_61.2.2.1) 5000 true cq_L_61.1 alt = true := by
  have e1 : cq_L_61.2.2.2 = al_L_61 := by dsimp only [cq_L_61]
  have e2 : cq_L_61.2.2.1 = mu_L_61 := by dsimp only [cq_L_61]
  have e3 : cq_L_61.1 = 1152 := by dsimp only [cq_L_61]
  rw [e1, e2, e3]
  exact rf_pcs (l := al_L_61) 1 ck_L_c_61 (List.isEmpty_iff.mp ck_L_n_61)
theorem ck_L_d_62 : ∀ alt ∈ cq_L_62.2.2.2, rf_run nm_cl nm_ct en_xs 8 xx_L kc_L cu_L po_L (some .boolean) 1 0 98 16364 (some cq_L_62.2.2.1) 5000 true cq_L_62.1 alt = true := by
  have e1 : cq_L_62.2.2.2 = al_L_62 := by dsimp only [cq_L_62]
  have e2 : cq_L_62.2.2.1 = mu_L_62 := by dsimp only [cq_L_62]
  have e3 : cq_L_62.1 = 1152 := by dsimp only [cq_L_62]
  rw [e1, e2, e3]
  exact rf_pcs (l := al_L_62) 1 ck_L_c_62 (List.isEmpty_iff.mp ck_L_n_62)
theorem ck_L_d_63 : ∀ alt ∈ cq_L_63.2.2.2, rf_run nm_cl nm_ct en_xs 8 xx_L kc_L cu_L po_L (some .boolean) 1 0 98 16364 (some cq_L_63.2.2.1) 5000 true cq_L_63.1 alt = true := by
  have e1 : cq_L_63.2.2.2 = al_L_63 := by dsimp only [cq_L_63]
  have e2 : cq_L_63.2.2.1 = mu_L_63 := by dsimp only [cq_L_63]
  have e3 : cq_L_63.1 = 1152 := by dsimp only [cq_L_63]
  rw [e1, e2, e3]
  exact rf_pcs (l := al_L_63) 1 ck_L_c_63 (List.isEmpty_iff.mp ck_L_n_63)
theorem ck_L_d_64 : ∀ alt ∈ cq_L_64.2.2.2, rf_run nm_cl nm_ct en_xs 8 xx_L kc_L cu_L po_L (some .boolean) 1 0 98 16364 (some cq_L_64.2.2.1) 5000 true cq_L_64.1 alt = true := by
  have e1 : cq_L_64.2.2.2 = al_L_64 := by dsimp only [cq_L_64]
  have e2 : cq_L_64.2.2.1 = mu_L_64 := by dsimp only [cq_L_64]
  have e3 : cq_L_64.1 = 1152 := by dsimp only [cq_L_64]
  rw [e1, e2, e3]
  exact rf_pcs (l := al_L_64) 1 ck_L_c_64 (List.isEmpty_iff.mp ck_L_n_64)
theorem ck_L_d_65 : ∀ alt ∈ cq_L_65.2.2.2, rf_run nm_cl nm_ct en_xs 8 xx_L kc_L cu_L po_L (some .boolean) 1 0 98 16364 (some cq_L_65.2.2.1) 5000 true cq_L_65.1 alt = true := by
  have e1 : cq_L_65.2.2.2 = al_L_65 := by dsimp only [cq_L_65]
  have e2 : cq_L_65.2.2.1 = mu_L_65 := by dsimp only [cq_L_65]
  have e3 : cq_L_65.1 = 1152 := by dsimp only [cq_L_65]
  rw [e1, e2, e3]
  exact rf_pcs (l := al_L_65) 1 ck_L_c_65 (List.isEmpty_iff.mp ck_L_n_65)
theorem ck_L_d_66 : ∀ alt ∈ cq_L_66.2.2.2, rf_run nm_cl nm_ct en_xs 8 xx_L kc_L cu_L po_L (some .boolean) 1 0 98 16364 (some cq_L_66.2.2.1) 5000 true cq_L_66.1 alt = true := by
  have e1 : cq_L_66.2.2.2 = al_L_66 := by dsimp only [cq_L_66]
  have e2 : cq_L_66.2.2.1 = mu_L_66 := by dsimp only [cq_L_66]
  have e3 : cq_L_66.1 = 1152 := by dsimp only [cq_L_66]
  rw [e1, e2, e3]
  exact rf_pcs (l := al_L_66) 1 ck_L_c_66 (List.isEmpty_iff.mp ck_L_n_66)
theorem ck_L_d_67 : ∀ alt ∈ cq_L_67.2.2.2, rf_run nm_cl nm_ct en_xs 8 xx_L kc_L cu_L po_L (some .boolean) 1 0 98 16364 (some cq_L_67.2.2.1) 5000 true cq_L_67.1 alt = true := by
  have e1 : cq_L_67.2.2.2 = al_L_67 := by dsimp only [cq_L_67]
  have e2 : cq_L_67.2.2.1 = mu_L_67 := by dsimp only [cq_L_67]
  have e3 : cq_L_67.1 = 1152 := by dsimp only [cq_L_67]
  rw [e1, e2, e3]
  exact rf_pcs (l := al_L_67) 1 ck_L_c_67 (List.isEmpty_iff.mp ck_L_n_67)
theorem ck_L_d_68 : ∀ alt ∈ cq_L_68.2.2.2, rf_run nm_cl nm_ct en_xs 8 xx_L kc_L cu_L po_L (some .boolean) 1 0 98 16364 (some cq_L_68.2.2.1) 5000 true cq_L_68.1 alt = true := by
  have e1 : cq_L_68.2.2.2 = al_L_68 := by dsimp only [cq_L_68]
  have e2 : cq_L_68.2.2.1 = mu_L_68 := by dsimp only [cq_L_68]
  have e3 : cq_L_68.1 = 1152 := by dsimp only [cq_L_68]
  rw [e1, e2, e3]
  exact rf_pcs (l := al_L_68) 1 ck_L_c_68 (List.isEmpty_iff.mp ck_L_n_68)
theorem ck_L_d_69 : ∀ alt ∈ cq_L_69.2.2.2, rf_run nm_cl nm_ct en_xs 8 xx_L kc_L cu_L po_L (some .boolean) 1 0 98 16364 (some cq_L_69.2.2.1) 5000 true cq_L_69.1 alt = true := by
  have e1 : cq_L_69.2.2.2 = al_L_69 := by dsimp only [cq_L_69]
  have e2 : cq_L_69.2.2.1 = mu_L_69 := by dsimp only [cq_L_69]
  have e3 : cq_L_69.1 = 1152 := by dsimp only [cq_L_69]
  rw [e1, e2, e3]
  exact rf_pcs (l := al_L_69) 1 ck_L_c_69 (List.isEmpty_iff.mp ck_L_n_69)
theorem ck_L_d_70 : ∀ alt ∈ cq_L_70.2.2.2, rf_run nm_cl nm_ct en_xs 8 xx_L kc_L cu_L po_L (some .boolean) 1 0 98 16364 (some cq_L_70.2.2.1) 5000 true cq_L_70.1 alt = true := by
  have e1 : cq_L_70.2.2.2 = al_L_70 := by dsimp only [cq_L_70]
  have e2 : cq_L_70.2.2.1 = mu_L_70 := by dsimp only [cq_L_70]
  have e3 : cq_L_70.1 = 1152 := by dsimp only [cq_L_70]
  rw [e1, e2, e3]
  exact rf_pcs (l := al_L_70) 1 ck_L_c_70 (List.isEmpty_iff.mp ck_L_n_70)
theorem ck_L_d_71 : ∀ alt ∈ cq_L_71.2.2.2, rf_run nm_cl nm_ct en_xs 8 xx_L kc_L cu_L po_L (some .boolean) 1 0 98 16364 (some cq_L_71.2.2.1) 5000 true cq_L_71.1 alt = true := by
  have e1 : cq_L_71.2.2.2 = al_L_71 := by dsimp only [cq_L_71]
  have e2 : cq_L_71.2.2.1 = mu_L_71 := by dsimp only [cq_L_71]
  have e3 : cq_L_71.1 = 1157 := by dsimp only [cq_L_71]
  rw [e1, e2, e3]
  exact rf_pcs (l := al_L_71) 1 ck_L_c_71 (List.isEmpty_iff.mp ck_L_n_71)
theorem ck_L_d_72 : ∀ alt ∈ cq_L_72.2.2.2, rf_run nm_cl nm_ct en_xs 8 xx_L kc_L cu_L po_L (some .boolean) 1 0 98 16364 (some cq_L_72.2.2.1) 5000 true cq_L_72.1 alt = true := by
  have e1 : cq_L_72.2.2.2 = al_L_72 := by dsimp only [cq_L_72]
  have e2 : cq_L_72.2.2.1 = mu_L_72 := by dsimp only [cq_L_72]
  have e3 : cq_L_72.1 = 1176 := by dsimp only [cq_L_72]
  rw [e1, e2, e3]
  exact rf_pcs (l := al_L_72) 1 ck_L_c_72 (List.isEmpty_iff.mp ck_L_n_72)
theorem ck_L_d_73 : ∀ alt ∈ cq_L_73.2.2.2, rf_run nm_cl nm_ct en_xs 8 xx_L kc_L cu_L po_L (some .boolean) 1 0 98 16364 (some cq_L_73.2.2.1) 5000 true cq_L_73.1 alt = true := by
  have e1 : cq_L_73.2.2.2 = al_L_73 := by dsimp only [cq_L_73]
  have e2 : cq_L_73.2.2.1 = mu_L_73 := by dsimp only [cq_L_73]
  have e3 : cq_L_73.1 = 1176 := by dsimp only [cq_L_73]
  rw [e1, e2, e3]
  exact rf_pcs (l := al_L_73) 1 ck_L_c_73 (List.isEmpty_iff.mp ck_L_n_73)
theorem ck_L_d_74 : ∀ alt ∈ cq_L_74.2.2.2, rf_run nm_cl nm_ct en_xs 8 xx_L kc_L cu_L po_L (some .boolean) 1 0 98 16364 (some cq_L_74.2.2.1) 5000 true cq_L_74.1 alt = true := by
  have e1 : cq_L_74.2.2.2 = al_L_74 := by dsimp only [cq_L_74]
  have e2 : cq_L_74.2.2.1 = mu_L_74 := by dsimp only [cq_L_74]
  have e3 : cq_L_74.1 = 1176 := by dsimp only [cq_L_74]
  rw [e1, e2, e3]
  exact rf_pcs (l := al_L_74) 1 ck_L_c_74 (List.isEmpty_iff.mp ck_L_n_74)
theorem ck_L_d_75 : ∀ alt ∈ cq_L_75.2.2.2, rf_run nm_cl nm_ct en_xs 8 xx_L kc_L cu_L po_L (some .boolean) 1 0 98 16364 (some cq_L_75.2.2.1) 5000 true cq_L_75.1 alt = true := by
  have e1 : cq_L_75.2.2.2 = al_L_75 := by dsimp only [cq_L_75]
  have e2 : cq_L_75.2.2.1 = mu_L_75 := by dsimp only [cq_L_75]
  have e3 : cq_L_75.1 = 1176 := by dsimp only [cq_L_75]
  rw [e1, e2, e3]
  exact rf_pcs (l := al_L_75) 1 ck_L_c_75 (List.isEmpty_iff.mp ck_L_n_75)
theorem ck_L_d_76 : ∀ alt ∈ cq_L_76.2.2.2, rf_run nm_cl nm_ct en_xs 8 xx_L kc_L cu_L po_L (some .boolean) 1 0 98 16364 (some cq_L_76.2.2.1) 5000 true cq_L_76.1 alt = true := by
  have e1 : cq_L_76.2.2.2 = al_L_76 := by dsimp only [cq_L_76]
  have e2 : cq_L_76.2.2.1 = mu_L_76 := by dsimp only [cq_L_76]
  have e3 : cq_L_76.1 = 1176 := by dsimp only [cq_L_76]
  rw [e1, e2, e3]
  exact rf_pcs (l := al_L_76) 1 ck_L_c_76 (List.isEmpty_iff.mp ck_L_n_76)
theorem ck_L_d_77 : ∀ alt ∈ cq_L_77.2.2.2, rf_run nm_cl nm_ct en_xs 8 xx_L kc_L cu_L po_L (some .boolean) 1 0 98 16364 (some cq_L_77.2.2.1) 5000 true cq_L_77.1 alt = true := by
  have e1 : cq_L_77.2.2.2 = al_L_77 := by dsimp only [cq_L_77]
  have e2 : cq_L_77.2.2.1 = mu_L_77 := by dsimp only [cq_L_77]
  have e3 : cq_L_77.1 = 1176 := by dsimp only [cq_L_77]
  rw [e1, e2, e3]
  exact rf_pcs (l := al_L_77) 1 ck_L_c_77 (List.isEmpty_iff.mp ck_L_n_77)
theorem ck_L_d_78 : ∀ alt ∈ cq_L_78.2.2.2, rf_run nm_cl nm_ct en_xs 8 xx_L kc_L cu_L po_L (some .boolean) 1 0 98 16364 (some cq_L_78.2.2.1) 5000 true cq_L_78.1 alt = true := by
  have e1 : cq_L_78.2.2.2 = al_L_78 := by dsimp only [cq_L_78]
  have e2 : cq_L_78.2.2.1 = mu_L_78 := by dsimp only [cq_L_78]
  have e3 : cq_L_78.1 = 1180 := by dsimp only [cq_L_78]
  rw [e1, e2, e3]
  exact rf_pcs (l := al_L_78) 1 ck_L_c_78 (List.isEmpty_iff.mp ck_L_n_78)
theorem ck_L_d_79 : ∀ alt ∈ cq_L_79.2.2.2, rf_run nm_cl nm_ct en_xs 8 xx_L kc_L cu_L po_L (some .boolean) 1 0 98 16364 (some cq_L_79.2.2.1) 5000 true cq_L_79.1 alt = true := by
  have e1 : cq_L_79.2.2.2 = al_L_79 := by dsimp only [cq_L_79]
  have e2 : cq_L_79.2.2.1 = mu_L_79 := by dsimp only [cq_L_79]
  have e3 : cq_L_79.1 = 1213 := by dsimp only [cq_L_79]
  rw [e1, e2, e3]
  exact rf_pcs (l := al_L_79) 1 ck_L_c_79 (List.isEmpty_iff.mp ck_L_n_79)
theorem ck_L_d_80 : ∀ alt ∈ cq_L_80.2.2.2, rf_run nm_cl nm_ct en_xs 8 xx_L kc_L cu_L po_L (some .boolean) 1 0 98 16364 (some cq_L_80.2.2.1) 5000 true cq_L_80.1 alt = true := by
  have e1 : cq_L_80.2.2.2 = al_L_80 := by dsimp only [cq_L_80]
  have e2 : cq_L_80.2.2.1 = mu_L_80 := by dsimp only [cq_L_80]
  have e3 : cq_L_80.1 = 1256 := by dsimp only [cq_L_80]
  rw [e1, e2, e3]
  exact rf_pcs (l := al_L_80) 1 ck_L_c_80 (List.isEmpty_iff.mp ck_L_n_80)
theorem ck_L_d_81 : ∀ alt ∈ cq_L_81.2.2.2, rf_run nm_cl nm_ct en_xs 8 xx_L kc_L cu_L po_L (some .boolean) 1 0 98 16364 (some cq_L_81.2.2.1) 5000 true cq_L_81.1 alt = true := by
  have e1 : cq_L_81.2.2.2 = al_L_81 := by dsimp only [cq_L_81]
  have e2 : cq_L_81.2.2.1 = mu_L_81 := by dsimp only [cq_L_81]
  have e3 : cq_L_81.1 = 1329 := by dsimp only [cq_L_81]
  rw [e1, e2, e3]
  exact rf_pcs (l := al_L_81) 1 ck_L_c_81 (List.isEmpty_iff.mp ck_L_n_81)
theorem ck_L_d_82 : ∀ alt ∈ cq_L_82.2.2.2, rf_run nm_cl nm_ct en_xs 8 xx_L kc_L cu_L po_L (some .boolean) 1 0 98 16364 (some cq_L_82.2.2.1) 5000 true cq_L_82.1 alt = true := by
  have e1 : cq_L_82.2.2.2 = al_L_82 := by dsimp only [cq_L_82]
  have e2 : cq_L_82.2.2.1 = mu_L_82 := by dsimp only [cq_L_82]
  have e3 : cq_L_82.1 = 1362 := by dsimp only [cq_L_82]
  rw [e1, e2, e3]
  exact rf_pcs (l := al_L_82) 1 ck_L_c_82 (List.isEmpty_iff.mp ck_L_n_82)
theorem ck_L_d_83 : ∀ alt ∈ cq_L_83.2.2.2, rf_run nm_cl nm_ct en_xs 8 xx_L kc_L cu_L po_L (some .boolean) 1 0 98 16364 (some cq_L_83.2.2.1) 5000 true cq_L_83.1 alt = true := by
  have e1 : cq_L_83.2.2.2 = al_L_83 := by dsimp only [cq_L_83]
  have e2 : cq_L_83.2.2.1 = mu_L_83 := by dsimp only [cq_L_83]
  have e3 : cq_L_83.1 = 1425 := by dsimp only [cq_L_83]
  rw [e1, e2, e3]
  exact rf_pcs (l := al_L_83) 1 ck_L_c_83 (List.isEmpty_iff.mp ck_L_n_83)
theorem ck_L_d_84 : ∀ alt ∈ cq_L_84.2.2.2, rf_run nm_cl nm_ct en_xs 8 xx_L kc_L cu_L po_L (some .boolean) 1 0 98 16364 (some cq_L_84.2.2.1) 5000 true cq_L_84.1 alt = true := by
  have e1 : cq_L_84.2.2.2 = al_L_84 := by dsimp only [cq_L_84]
  have e2 : cq_L_84.2.2.1 = mu_L_84 := by dsimp only [cq_L_84]
  have e3 : cq_L_84.1 = 1458 := by dsimp only [cq_L_84]
  rw [e1, e2, e3]
  exact rf_pcs (l := al_L_84) 1 ck_L_c_84 (List.isEmpty_iff.mp ck_L_n_84)
set_option maxRecDepth 100000 in
theorem ck_L_b : ∀ cu ∈ cu_L, Nat.beq cu.2.2.1.length 4 = true ∧ ∀ alt ∈ cu.2.2.2, rf_run nm_cl nm_ct en_xs 8 xx_L kc_L cu_L po_L (some .boolean) 1 0 98 16364 (some cu.2.2.1) 5000 true cu.1 alt = true := List.forall_mem_cons.mpr ⟨⟨rfl, ck_L_d_0⟩, List.forall_mem_cons.mpr ⟨⟨rfl, ck_L_d_1⟩, List.forall_mem_cons.mpr ⟨⟨rfl, ck_L_d_2⟩, List.forall_mem_cons.mpr ⟨⟨rfl, ck_L_d_3⟩, List.forall_mem_cons.mpr ⟨⟨rfl, ck_L_d_4⟩, List.forall_mem_cons.mpr ⟨⟨rfl, ck_L_d_5⟩, List.forall_mem_cons.mpr ⟨⟨rfl, ck_L_d_6⟩, List.forall_mem_cons.mpr ⟨⟨rfl, ck_L_d_7⟩, List.forall_mem_cons.mpr ⟨⟨rfl, ck_L_d_8⟩, List.forall_mem_cons.mpr ⟨⟨rfl, ck_L_d_9⟩, List.forall_mem_cons.mpr ⟨⟨rfl, ck_L_d_10⟩, List.forall_mem_cons.mpr ⟨⟨rfl, ck_L_d_11⟩, List.forall_mem_cons.mpr ⟨⟨rfl, ck_L_d_12⟩, List.forall_mem_cons.mpr ⟨⟨rfl, ck_L_d_13⟩, List.forall_mem_cons.mpr ⟨⟨rfl, ck_L_d_14⟩, List.forall_mem_cons.mpr ⟨⟨rfl, ck_L_d_15⟩, List.forall_mem_cons.mpr ⟨⟨rfl, ck_L_d_16⟩, List.forall_mem_cons.mpr ⟨⟨rfl, ck_L_d_17⟩, List.forall_mem_cons.mpr ⟨⟨rfl, ck_L_d_18⟩, List.forall_mem_cons.mpr ⟨⟨rfl, ck_L_d_19⟩, List.forall_mem_cons.mpr ⟨⟨rfl, ck_L_d_20⟩, List.forall_mem_cons.mpr ⟨⟨rfl, ck_L_d_21⟩, List.forall_mem_cons.mpr ⟨⟨rfl, ck_L_d_22⟩, List.forall_mem_cons.mpr ⟨⟨rfl, ck_L_d_23⟩, List.forall_mem_cons.mpr ⟨⟨rfl, ck_L_d_24⟩, List.forall_mem_cons.mpr ⟨⟨rfl, ck_L_d_25⟩, List.forall_mem_cons.mpr ⟨⟨rfl, ck_L_d_26⟩, List.forall_mem_cons.mpr ⟨⟨rfl, ck_L_d_27⟩, List.forall_mem_cons.mpr ⟨⟨rfl, ck_L_d_28⟩, List.forall_mem_cons.mpr ⟨⟨rfl, ck_L_d_29⟩, List.forall_mem_cons.mpr ⟨⟨rfl, ck_L_d_30⟩, List.forall_mem_cons.mpr ⟨⟨rfl, ck_L_d_31⟩, List.forall_mem_cons.mpr ⟨⟨rfl, ck_L_d_32⟩, List.forall_mem_cons.mpr ⟨⟨rfl, ck_L_d_33⟩, List.forall_mem_cons.mpr ⟨⟨rfl, ck_L_d_34⟩, List.forall_mem_cons.mpr ⟨⟨rfl, ck_L_d_35⟩, List.forall_mem_cons.mpr ⟨⟨rfl, ck_L_d_36⟩, List.forall_mem_cons.mpr ⟨⟨rfl, ck_L_d_37⟩, List.forall_mem_cons.mpr ⟨⟨rfl, ck_L_d_38⟩, List.forall_mem_cons.mpr ⟨⟨rfl, ck_L_d_39⟩, List.forall_mem_cons.mpr ⟨⟨rfl, ck_L_d_40⟩, List.forall_mem_cons.mpr ⟨⟨rfl, ck_L_d_41⟩, List.forall_mem_cons.mpr ⟨⟨rfl, ck_L_d_42⟩, List.forall_mem_cons.mpr ⟨⟨rfl, ck_L_d_43⟩, List.forall_mem_cons.mpr ⟨⟨rfl, ck_L_d_44⟩, List.forall_mem_cons.mpr ⟨⟨rfl, ck_L_d_45⟩, List.forall_mem_cons.mpr ⟨⟨rfl, ck_L_d_46⟩, List.forall_mem_cons.mpr ⟨⟨rfl, ck_L_d_47⟩, List.forall_mem_cons.mpr ⟨⟨rfl, ck_L_d_48⟩, List.forall_mem_cons.mpr ⟨⟨rfl, ck_L_d_49⟩, List.forall_mem_cons.mpr ⟨⟨rfl, ck_L_d_50⟩, List.forall_mem_cons.mpr ⟨⟨rfl, ck_L_d_51⟩, List.forall_mem_cons.mpr ⟨⟨rfl, ck_L_d_52⟩, List.forall_mem_cons.mpr ⟨⟨rfl, ck_L_d_53⟩, List.forall_mem_cons.mpr ⟨⟨rfl, ck_L_d_54⟩, List.forall_mem_cons.mpr ⟨⟨rfl, ck_L_d_55⟩, List.forall_mem_cons.mpr ⟨⟨rfl, ck_L_d_56⟩, List.forall_mem_cons.mpr ⟨⟨rfl, ck_L_d_57⟩, List.forall_mem_cons.mpr ⟨⟨rfl, ck_L_d_58⟩, List.forall_mem_cons.mpr ⟨⟨rfl, ck_L_d_59⟩, List.forall_mem_cons.mpr ⟨⟨rfl, ck_L_d_60⟩, List.forall_mem_cons.mpr ⟨⟨rfl, ck_L_d_61⟩, List.forall_mem_cons.mpr ⟨⟨rfl, ck_L_d_62⟩, List.forall_mem_cons.mpr ⟨⟨rfl, ck_L_d_63⟩, List.forall_mem_cons.mpr ⟨⟨rfl, ck_L_d_64⟩, List.forall_mem_cons.mpr ⟨⟨rfl, ck_L_d_65⟩, List.forall_mem_cons.mpr ⟨⟨rfl, ck_L_d_66⟩, List.forall_mem_cons.mpr ⟨⟨rfl, ck_L_d_67⟩, List.forall_mem_cons.mpr ⟨⟨rfl, ck_L_d_68⟩, List.forall_mem_cons.mpr ⟨⟨rfl, ck_L_d_69⟩, List.forall_mem_cons.mpr ⟨⟨rfl, ck_L_d_70⟩, List.forall_mem_cons.mpr ⟨⟨rfl, ck_L_d_71⟩, List.forall_mem_cons.mpr ⟨⟨rfl, ck_L_d_72⟩, List.forall_mem_cons.mpr ⟨⟨rfl, ck_L_d_73⟩, List.forall_mem_cons.mpr ⟨⟨rfl, ck_L_d_74⟩, List.forall_mem_cons.mpr ⟨⟨rfl, ck_L_d_75⟩, List.forall_mem_cons.mpr ⟨⟨rfl, ck_L_d_76⟩, List.forall_mem_cons.mpr ⟨⟨rfl, ck_L_d_77⟩, List.forall_mem_cons.mpr ⟨⟨rfl, ck_L_d_78⟩, List.forall_mem_cons.mpr ⟨⟨rfl, ck_L_d_79⟩, List.forall_mem_cons.mpr ⟨⟨rfl, ck_L_d_80⟩, List.forall_mem_cons.mpr ⟨⟨rfl, ck_L_d_81⟩, List.forall_mem_cons.mpr ⟨⟨rfl, ck_L_d_82⟩, List.forall_mem_cons.mpr ⟨⟨rfl, ck_L_d_83⟩, List.forall_mem_cons.mpr ⟨⟨rfl, ck_L_d_84⟩, (fun _ h => absurd h List.not_mem_nil)⟩⟩⟩⟩⟩⟩⟩⟩⟩⟩⟩⟩⟩⟩⟩⟩⟩⟩⟩⟩⟩⟩⟩⟩⟩⟩⟩⟩⟩⟩⟩⟩⟩⟩⟩⟩⟩⟩⟩⟩⟩⟩⟩⟩⟩⟩⟩⟩⟩⟩⟩⟩⟩⟩⟩⟩⟩⟩⟩⟩⟩⟩⟩⟩⟩⟩⟩⟩⟩⟩⟩⟩⟩⟩⟩⟩⟩⟩⟩⟩⟩⟩⟩⟩⟩
set_option maxRecDepth 100000 in
theorem ln_L : rf_lens kc_L = true := by decide +kernel
