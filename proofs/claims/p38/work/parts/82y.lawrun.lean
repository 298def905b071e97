/-! the law: its checks, together -/
set_option maxRecDepth 100000 in
theorem ah_L_0 : rf_ALT cq_L_0 := rf_alt_inf [(109, [94], []), (110, [], [(0, 0, Int.ofNat 0), (0, 0, Int.ofNat 0), (0, 0, Int.ofNat 0), (0, 0, Int.ofNat 0), (0, 2, Int.ofNat 0), (0, 0, Int.ofNat 0), (0, 0, Int.ofNat 0)]), (110, [], [(0, 0, Int.ofNat 0), (0, 0, Int.ofNat 0), (0, 0, Int.ofNat 0), (0, 0, Int.ofNat 0), (0, 2, Int.ofNat 0), (0, 0, Int.ofNat 0), (0, 0, Int.ofNat 1)]), (110, [], [(0, 0, Int.ofNat 0), (0, 0, Int.ofNat 0), (0, 0, Int.ofNat 0), (0, 0, Int.ofNat 0), (0, 2, Int.ofNat 0), (0, 0, Int.ofNat 0), (0, 0, Int.ofNat 2)]), (110, [], [(0, 0, Int.ofNat 0), (0, 0, Int.ofNat 0), (0, 0, Int.ofNat 0), (0, 0, Int.ofNat 0), (0, 2, Int.ofNat 0), (0, 0, Int.ofNat 0), (0, 0, Int.ofNat 3)]), (110, [], [(0, 0, Int.ofNat 0), (0, 0, Int.ofNat 0), (0, 0, Int.ofNat 0), (0, 0, Int.ofNat 0), (0, 2, Int.ofNat 0), (0, 0, Int.ofNat 0), (0, 0, Int.ofNat 4)]), (110, [], [(0, 0, Int.ofNat 0), (0, 0, Int.ofNat 0), (0, 0, Int.ofNat 0), (0, 0, Int.ofNat 0), (0, 2, Int.ofNat 0), (0, 0, Int.ofNat 0), (0, 0, Int.ofNat 5)])] (by dsimp only [cq_L_0, al_L_0])
set_option maxRecDepth 100000 in
theorem ah_L_1 : rf_ALT cq_L_1 := rf_alt_self rfl
set_option maxRecDepth 100000 in
theorem ah_L_2 : rf_ALT cq_L_2 := rf_alt_self rfl
set_option maxRecDepth 100000 in
theorem ah_L_3 : rf_ALT cq_L_3 := rf_alt_self rfl
set_option maxRecDepth 100000 in
theorem ah_L_4 : rf_ALT cq_L_4 := rf_alt_self rfl
set_option maxRecDepth 100000 in
theorem ah_L_5 : rf_ALT cq_L_5 := rf_alt_self rfl
set_option maxRecDepth 100000 in
theorem ah_L_6 : rf_ALT cq_L_6 := rf_alt_self rfl
set_option maxRecDepth 100000 in
theorem ah_L_7 : rf_ALT cq_L_7 := rf_alt_self rfl
set_option maxRecDepth 100000 in
theorem ah_L_8 : rf_ALT cq_L_8 := rf_alt_self rfl
set_option maxRecDepth 100000 in
theorem ah_L_9 : rf_ALT cq_L_9 := rf_alt_self rfl
set_option maxRecDepth 100000 in
theorem ah_L_10 : rf_ALT cq_L_10 := rf_alt_self rfl
set_option maxRecDepth 100000 in
theorem ah_L_11 : rf_ALT cq_L_11 := rf_alt_self rfl
set_option maxRecDepth 100000 in
theorem ah_L_12 : rf_ALT cq_L_12 := rf_alt_self rfl
set_option maxRecDepth 100000 in
theorem ah_L_13 : rf_ALT cq_L_13 := rf_alt_self rfl
set_option maxRecDepth 100000 in
theorem ah_L_14 : rf_ALT cq_L_14 := rf_alt_self rfl
set_option maxRecDepth 100000 in
theorem ah_L_15 : rf_ALT cq_L_15 := rf_alt_self rfl
set_option maxRecDepth 100000 in
theorem ah_L_16 : rf_ALT cq_L_16 := rf_alt_self rfl
set_option maxRecDepth 100000 in
theorem ah_L_17 : rf_ALT cq_L_17 := rf_alt_self rfl
set_option maxRecDepth 100000 in
theorem ah_L_18 : rf_ALT cq_L_18 := rf_alt_self rfl
set_option maxRecDepth 100000 in
theorem ah_L_19 : rf_ALT cq_L_19 := rf_alt_self rfl
set_option maxRecDepth 100000 in
theorem ah_L_20 : rf_ALT cq_L_20 := rf_alt_self rfl
set_option maxRecDepth 100000 in
theorem ah_L_21 : rf_ALT cq_L_21 := rf_alt_self rfl
set_option maxRecDepth 100000 in
theorem ah_L_22 : rf_ALT cq_L_22 := rf_alt_self rfl
set_option maxRecDepth 100000 in
theorem ah_L_23 : rf_ALT cq_L_23 := rf_alt_self rfl
set_option maxRecDepth 100000 in
theorem ah_L_24 : rf_ALT cq_L_24 := rf_alt_self rfl
set_option maxRecDepth 100000 in
theorem ah_L_25 : rf_ALT cq_L_25 := rf_alt_self rfl
set_option maxRecDepth 100000 in
theorem ah_L_26 : rf_ALT cq_L_26 := rf_alt_self rfl
set_option maxRecDepth 100000 in
theorem ah_L_27 : rf_ALT cq_L_27 := rf_alt_self rfl
set_option maxRecDepth 100000 in
theorem ah_L_28 : rf_ALT cq_L_28 := rf_alt_self rfl
set_option maxRecDepth 100000 in
theorem ah_L_29 : rf_ALT cq_L_29 := rf_alt_self rfl
set_option maxRecDepth 100000 in
theorem ah_L_30 : rf_ALT cq_L_30 := rf_alt_self rfl
set_option maxRecDepth 100000 in
theorem ah_L_31 : rf_ALT cq_L_31 := rf_alt_self rfl
set_option maxRecDepth 100000 in
theorem ah_L_32 : rf_ALT cq_L_32 := rf_alt_self rfl
set_option maxRecDepth 100000 in
theorem ah_L_33 : rf_ALT cq_L_33 := rf_alt_self rfl
set_option maxRecDepth 100000 in
theorem ah_L_34 : rf_ALT cq_L_34 := rf_alt_self rfl
set_option maxRecDepth 100000 in
theorem ah_L_35 : rf_ALT cq_L_35 := rf_alt_split [(88, [(Int.negSucc 2147483647, Int.negSucc 0), (Int.ofNat 0, Int.ofNat 0), (Int.ofNat 1, Int.ofNat 1), (Int.ofNat 2, Int.ofNat 2), (Int.ofNat 3, Int.ofNat 3), (Int.ofNat 4, Int.ofNat 4), (Int.ofNat 5, Int.ofNat 5), (Int.ofNat 6, Int.ofNat 2147483647)])] rfl (by decide +kernel)
set_option maxRecDepth 100000 in
theorem ah_L_36 : rf_ALT cq_L_36 := rf_alt_self rfl
set_option maxRecDepth 100000 in
theorem ah_L_37 : rf_ALT cq_L_37 := rf_alt_self rfl
set_option maxRecDepth 100000 in
theorem ah_L_38 : rf_ALT cq_L_38 := rf_alt_self rfl
set_option maxRecDepth 100000 in
theorem ah_L_39 : rf_ALT cq_L_39 := rf_alt_self rfl
set_option maxRecDepth 100000 in
theorem ah_L_40 : rf_ALT cq_L_40 := rf_alt_self rfl
set_option maxRecDepth 100000 in
theorem ah_L_41 : rf_ALT cq_L_41 := rf_alt_self rfl
set_option maxRecDepth 100000 in
theorem ah_L_42 : rf_ALT cq_L_42 := rf_alt_self rfl
set_option maxRecDepth 100000 in
theorem ah_L_43 : rf_ALT cq_L_43 := rf_alt_self rfl
set_option maxRecDepth 100000 in
theorem ah_L_44 : rf_ALT cq_L_44 := rf_alt_self rfl
set_option maxRecDepth 100000 in
theorem ah_L_45 : rf_ALT cq_L_45 := rf_alt_self rfl
set_option maxRecDepth 100000 in
theorem ah_L_46 : rf_ALT cq_L_46 := rf_alt_self rfl
set_option maxRecDepth 100000 in
theorem ah_L_47 : rf_ALT cq_L_47 := rf_alt_self rfl
set_option maxRecDepth 100000 in
theorem ah_L_48 : rf_ALT cq_L_48 := rf_alt_self rfl
set_option maxRecDepth 100000 in
theorem ah_L_49 : rf_ALT cq_L_49 := rf_alt_self rfl
set_option maxRecDepth 100000 in
theorem ah_L_50 : rf_ALT cq_L_50 := rf_alt_self rfl
set_option maxRecDepth 100000 in
theorem ah_L_51 : rf_ALT cq_L_51 := rf_alt_self rfl
set_option maxRecDepth 100000 in
theorem ah_L_52 : rf_ALT cq_L_52 := rf_alt_self rfl
set_option maxRecDepth 100000 in
theorem ah_L_53 : rf_ALT cq_L_53 := rf_alt_self rfl
set_option maxRecDepth 100000 in
theorem ah_L_54 : rf_ALT cq_L_54 := rf_alt_self rfl
set_option maxRecDepth 100000 in
theorem ah_L_55 : rf_ALT cq_L_55 := rf_alt_self rfl
set_option maxRecDepth 100000 in
theorem ah_L_56 : rf_ALT cq_L_56 := rf_alt_self rfl
set_option maxRecDepth 100000 in
theorem ah_L_57 : rf_ALT cq_L_57 := rf_alt_self rfl
set_option maxRecDepth 100000 in
theorem ah_L_58 : rf_ALT cq_L_58 := rf_alt_self rfl
set_option maxRecDepth 100000 in
theorem ah_L_59 : rf_ALT cq_L_59 := rf_alt_self rfl
set_option maxRecDepth 100000 in
theorem ah_L_60 : rf_ALT cq_L_60 := rf_alt_self rfl
set_option maxRecDepth 100000 in
theorem ah_L_61 : rf_ALT cq_L_61 := rf_alt_self rfl
set_option maxRecDepth 100000 in
theorem ah_L_62 : rf_ALT cq_L_62 := rf_alt_inf [(100, [94], [(0, 89, Int.ofNat 0), (0, 90, Int.ofNat 0), (0, 86, Int.ofNat 0)]), (107, [], [(0, 0, Int.ofNat 0), (0, 39, Int.ofNat 0), (0, 40, Int.ofNat 0), (0, 0, Int.ofNat 0), (0, 86, Int.ofNat 0), (0, 87, Int.ofNat 0), (0, 0, Int.ofNat 0), (0, 91, Int.ofNat 0)]), (102, [], [(0, 42, Int.ofNat 0), (0, 43, Int.ofNat 0), (0, 44, Int.ofNat 0), (0, 45, Int.ofNat 0), (0, 86, Int.ofNat 0), (0, 87, Int.ofNat 0), (0, 0, Int.ofNat 1), (0, 91, Int.ofNat 0), (0, 0, Int.ofNat 0), (0, 90, Int.ofNat 0)]), (102, [], [(0, 46, Int.ofNat 0), (0, 47, Int.ofNat 0), (0, 48, Int.ofNat 0), (0, 49, Int.ofNat 0), (0, 86, Int.ofNat 0), (0, 87, Int.ofNat 0), (0, 0, Int.ofNat 2), (0, 91, Int.ofNat 0), (0, 0, Int.ofNat 0), (0, 90, Int.ofNat 0)]), (102, [], [(0, 50, Int.ofNat 0), (0, 51, Int.ofNat 0), (0, 52, Int.ofNat 0), (0, 53, Int.ofNat 0), (0, 86, Int.ofNat 0), (0, 87, Int.ofNat 0), (0, 0, Int.ofNat 3), (0, 91, Int.ofNat 0), (0, 0, Int.ofNat 0), (0, 90, Int.ofNat 0)]), (102, [], [(0, 54, Int.ofNat 0), (0, 55, Int.ofNat 0), (0, 56, Int.ofNat 0), (0, 57, Int.ofNat 0), (0, 86, Int.ofNat 0), (0, 87, Int.ofNat 0), (0, 0, Int.ofNat 4), (0, 91, Int.ofNat 0), (0, 0, Int.ofNat 0), (0, 90, Int.ofNat 0)]), (102, [], [(0, 58, Int.ofNat 0), (0, 59, Int.ofNat 0), (0, 60, Int.ofNat 0), (0, 61, Int.ofNat 0), (0, 86, Int.ofNat 0), (0, 87, Int.ofNat 0), (0, 0, Int.ofNat 5), (0, 91, Int.ofNat 0), (0, 0, Int.ofNat 0), (0, 90, Int.ofNat 0)])] (by dsimp only [cq_L_62, al_L_62])
set_option maxRecDepth 100000 in
theorem ah_L_63 : rf_ALT cq_L_63 := rf_alt_inf [(100, [94], [(0, 89, Int.ofNat 0), (0, 90, Int.ofNat 0), (0, 86, Int.ofNat 0)]), (106, [], [(0, 0, Int.ofNat 1), (0, 90, Int.ofNat 0), (0, 40, Int.ofNat 0), (0, 0, Int.ofNat 0), (0, 86, Int.ofNat 0), (0, 87, Int.ofNat 0), (0, 0, Int.ofNat 0), (0, 91, Int.ofNat 0)]), (102, [], [(0, 42, Int.ofNat 0), (0, 43, Int.ofNat 0), (0, 44, Int.ofNat 0), (0, 45, Int.ofNat 0), (0, 86, Int.ofNat 0), (0, 87, Int.ofNat 0), (0, 0, Int.ofNat 1), (0, 91, Int.ofNat 0), (0, 0, Int.ofNat 0), (0, 90, Int.ofNat 0)]), (102, [], [(0, 46, Int.ofNat 0), (0, 47, Int.ofNat 0), (0, 48, Int.ofNat 0), (0, 49, Int.ofNat 0), (0, 86, Int.ofNat 0), (0, 87, Int.ofNat 0), (0, 0, Int.ofNat 2), (0, 91, Int.ofNat 0), (0, 0, Int.ofNat 0), (0, 90, Int.ofNat 0)]), (102, [], [(0, 50, Int.ofNat 0), (0, 51, Int.ofNat 0), (0, 52, Int.ofNat 0), (0, 53, Int.ofNat 0), (0, 86, Int.ofNat 0), (0, 87, Int.ofNat 0), (0, 0, Int.ofNat 3), (0, 91, Int.ofNat 0), (0, 0, Int.ofNat 0), (0, 90, Int.ofNat 0)]), (102, [], [(0, 54, Int.ofNat 0), (0, 55, Int.ofNat 0), (0, 56, Int.ofNat 0), (0, 57, Int.ofNat 0), (0, 86, Int.ofNat 0), (0, 87, Int.ofNat 0), (0, 0, Int.ofNat 4), (0, 91, Int.ofNat 0), (0, 0, Int.ofNat 0), (0, 90, Int.ofNat 0)]), (102, [], [(0, 58, Int.ofNat 0), (0, 59, Int.ofNat 0), (0, 60, Int.ofNat 0), (0, 61, Int.ofNat 0), (0, 86, Int.ofNat 0), (0, 87, Int.ofNat 0), (0, 0, Int.ofNat 5), (0, 91, Int.ofNat 0), (0, 0, Int.ofNat 0), (0, 90, Int.ofNat 0)])] (by dsimp only [cq_L_63, al_L_63])
set_option maxRecDepth 100000 in
theorem ah_L_64 : rf_ALT cq_L_64 := rf_alt_inf [(100, [94], [(0, 89, Int.ofNat 0), (0, 90, Int.ofNat 0), (0, 86, Int.ofNat 0)]), (101, [], [(0, 38, Int.ofNat 0), (0, 39, Int.ofNat 0), (0, 40, Int.ofNat 0), (0, 41, Int.ofNat 0), (0, 86, Int.ofNat 0), (0, 87, Int.ofNat 0), (0, 0, Int.ofNat 0), (0, 91, Int.ofNat 0), (0, 0, Int.ofNat 1), (0, 90, Int.ofNat 0)]), (107, [], [(0, 0, Int.ofNat 0), (0, 43, Int.ofNat 0), (0, 44, Int.ofNat 0), (0, 0, Int.ofNat 0), (0, 86, Int.ofNat 0), (0, 87, Int.ofNat 0), (0, 0, Int.ofNat 1), (0, 91, Int.ofNat 0)]), (102, [], [(0, 46, Int.ofNat 0), (0, 47, Int.ofNat 0), (0, 48, Int.ofNat 0), (0, 49, Int.ofNat 0), (0, 86, Int.ofNat 0), (0, 87, Int.ofNat 0), (0, 0, Int.ofNat 2), (0, 91, Int.ofNat 0), (0, 0, Int.ofNat 1), (0, 90, Int.ofNat 0)]), (102, [], [(0, 50, Int.ofNat 0), (0, 51, Int.ofNat 0), (0, 52, Int.ofNat 0), (0, 53, Int.ofNat 0), (0, 86, Int.ofNat 0), (0, 87, Int.ofNat 0), (0, 0, Int.ofNat 3), (0, 91, Int.ofNat 0), (0, 0, Int.ofNat 1), (0, 90, Int.ofNat 0)]), (102, [], [(0, 54, Int.ofNat 0), (0, 55, Int.ofNat 0), (0, 56, Int.ofNat 0), (0, 57, Int.ofNat 0), (0, 86, Int.ofNat 0), (0, 87, Int.ofNat 0), (0, 0, Int.ofNat 4), (0, 91, Int.ofNat 0), (0, 0, Int.ofNat 1), (0, 90, Int.ofNat 0)]), (102, [], [(0, 58, Int.ofNat 0), (0, 59, Int.ofNat 0), (0, 60, Int.ofNat 0), (0, 61, Int.ofNat 0), (0, 86, Int.ofNat 0), (0, 87, Int.ofNat 0), (0, 0, Int.ofNat 5), (0, 91, Int.ofNat 0), (0, 0, Int.ofNat 1), (0, 90, Int.ofNat 0)])] (by dsimp only [cq_L_64, al_L_64])
set_option maxRecDepth 100000 in
theorem ah_L_65 : rf_ALT cq_L_65 := rf_alt_inf [(100, [94], [(0, 89, Int.ofNat 0), (0, 90, Int.ofNat 0), (0, 86, Int.ofNat 0)]), (101, [], [(0, 38, Int.ofNat 0), (0, 39, Int.ofNat 0), (0, 40, Int.ofNat 0), (0, 41, Int.ofNat 0), (0, 86, Int.ofNat 0), (0, 87, Int.ofNat 0), (0, 0, Int.ofNat 0), (0, 91, Int.ofNat 0), (0, 0, Int.ofNat 1), (0, 90, Int.ofNat 0)]), (106, [], [(0, 0, Int.ofNat 1), (0, 90, Int.ofNat 0), (0, 44, Int.ofNat 0), (0, 0, Int.ofNat 0), (0, 86, Int.ofNat 0), (0, 87, Int.ofNat 0), (0, 0, Int.ofNat 1), (0, 91, Int.ofNat 0)]), (102, [], [(0, 46, Int.ofNat 0), (0, 47, Int.ofNat 0), (0, 48, Int.ofNat 0), (0, 49, Int.ofNat 0), (0, 86, Int.ofNat 0), (0, 87, Int.ofNat 0), (0, 0, Int.ofNat 2), (0, 91, Int.ofNat 0), (0, 0, Int.ofNat 1), (0, 90, Int.ofNat 0)]), (102, [], [(0, 50, Int.ofNat 0), (0, 51, Int.ofNat 0), (0, 52, Int.ofNat 0), (0, 53, Int.ofNat 0), (0, 86, Int.ofNat 0), (0, 87, Int.ofNat 0), (0, 0, Int.ofNat 3), (0, 91, Int.ofNat 0), (0, 0, Int.ofNat 1), (0, 90, Int.ofNat 0)]), (102, [], [(0, 54, Int.ofNat 0), (0, 55, Int.ofNat 0), (0, 56, Int.ofNat 0), (0, 57, Int.ofNat 0), (0, 86, Int.ofNat 0), (0, 87, Int.ofNat 0), (0, 0, Int.ofNat 4), (0, 91, Int.ofNat 0), (0, 0, Int.ofNat 1), (0, 90, Int.ofNat 0)]), (102, [], [(0, 58, Int.ofNat 0), (0, 59, Int.ofNat 0), (0, 60, Int.ofNat 0), (0, 61, Int.ofNat 0), (0, 86, Int.ofNat 0), (0, 87, Int.ofNat 0), (0, 0, Int.ofNat 5), (0, 91, Int.ofNat 0), (0, 0, Int.ofNat 1), (0, 90, Int.ofNat 0)])] (by dsimp only [cq_L_65, al_L_65])
set_option maxRecDepth 100000 in
theorem ah_L_66 : rf_ALT cq_L_66 := rf_alt_inf [(100, [94], [(0, 89, Int.ofNat 0), (0, 90, Int.ofNat 0), (0, 86, Int.ofNat 0)]), (101, [], [(0, 38, Int.ofNat 0), (0, 39, Int.ofNat 0), (0, 40, Int.ofNat 0), (0, 41, Int.ofNat 0), (0, 86, Int.ofNat 0), (0, 87, Int.ofNat 0), (0, 0, Int.ofNat 0), (0, 91, Int.ofNat 0), (0, 0, Int.ofNat 2), (0, 90, Int.ofNat 0)]), (101, [], [(0, 42, Int.ofNat 0), (0, 43, Int.ofNat 0), (0, 44, Int.ofNat 0), (0, 45, Int.ofNat 0), (0, 86, Int.ofNat 0), (0, 87, Int.ofNat 0), (0, 0, Int.ofNat 1), (0, 91, Int.ofNat 0), (0, 0, Int.ofNat 2), (0, 90, Int.ofNat 0)]), (107, [], [(0, 0, Int.ofNat 0), (0, 47, Int.ofNat 0), (0, 48, Int.ofNat 0), (0, 0, Int.ofNat 0), (0, 86, Int.ofNat 0), (0, 87, Int.ofNat 0), (0, 0, Int.ofNat 2), (0, 91, Int.ofNat 0)]), (102, [], [(0, 50, Int.ofNat 0), (0, 51, Int.ofNat 0), (0, 52, Int.ofNat 0), (0, 53, Int.ofNat 0), (0, 86, Int.ofNat 0), (0, 87, Int.ofNat 0), (0, 0, Int.ofNat 3), (0, 91, Int.ofNat 0), (0, 0, Int.ofNat 2), (0, 90, Int.ofNat 0)]), (102, [], [(0, 54, Int.ofNat 0), (0, 55, Int.ofNat 0), (0, 56, Int.ofNat 0), (0, 57, Int.ofNat 0), (0, 86, Int.ofNat 0), (0, 87, Int.ofNat 0), (0, 0, Int.ofNat 4), (0, 91, Int.ofNat 0), (0, 0, Int.ofNat 2), (0, 90, Int.ofNat 0)]), (102, [], [(0, 58, Int.ofNat 0), (0, 59, Int.ofNat 0), (0, 60, Int.ofNat 0), (0, 61, Int.ofNat 0), (0, 86, Int.ofNat 0), (0, 87, Int.ofNat 0), (0, 0, Int.ofNat 5), (0, 91, Int.ofNat 0), (0, 0, Int.ofNat 2), (0, 90, Int.ofNat 0)])] (by dsimp only [cq_L_66, al_L_66])
set_option maxRecDepth 100000 in
theorem ah_L_67 : rf_ALT cq_L_67 := rf_alt_inf [(100, [94], [(0, 89, Int.ofNat 0), (0, 90, Int.ofNat 0), (0, 86, Int.ofNat 0)]), (101, [], [(0, 38, Int.ofNat 0), (0, 39, Int.ofNat 0), (0, 40, Int.ofNat 0), (0, 41, Int.ofNat 0), (0, 86, Int.ofNat 0), (0, 87, Int.ofNat 0), (0, 0, Int.ofNat 0), (0, 91, Int.ofNat 0), (0, 0, Int.ofNat 2), (0, 90, Int.ofNat 0)]), (101, [], [(0, 42, Int.ofNat 0), (0, 43, Int.ofNat 0), (0, 44, Int.ofNat 0), (0, 45, Int.ofNat 0), (0, 86, Int.ofNat 0), (0, 87, Int.ofNat 0), (0, 0, Int.ofNat 1), (0, 91, Int.ofNat 0), (0, 0, Int.ofNat 2), (0, 90, Int.ofNat 0)]), (106, [], [(0, 0, Int.ofNat 1), (0, 90, Int.ofNat 0), (0, 48, Int.ofNat 0), (0, 0, Int.ofNat 0), (0, 86, Int.ofNat 0), (0, 87, Int.ofNat 0), (0, 0, Int.ofNat 2), (0, 91, Int.ofNat 0)]), (102, [], [(0, 50, Int.ofNat 0), (0, 51, Int.ofNat 0), (0, 52, Int.ofNat 0), (0, 53, Int.ofNat 0), (0, 86, Int.ofNat 0), (0, 87, Int.ofNat 0), (0, 0, Int.ofNat 3), (0, 91, Int.ofNat 0), (0, 0, Int.ofNat 2), (0, 90, Int.ofNat 0)]), (102, [], [(0, 54, Int.ofNat 0), (0, 55, Int.ofNat 0), (0, 56, Int.ofNat 0), (0, 57, Int.ofNat 0), (0, 86, Int.ofNat 0), (0, 87, Int.ofNat 0), (0, 0, Int.ofNat 4), (0, 91, Int.ofNat 0), (0, 0, Int.ofNat 2), (0, 90, Int.ofNat 0)]), (102, [], [(0, 58, Int.ofNat 0), (0, 59, Int.ofNat 0), (0, 60, Int.ofNat 0), (0, 61, Int.ofNat 0), (0, 86, Int.ofNat 0), (0, 87, Int.ofNat 0), (0, 0, Int.ofNat 5), (0, 91, Int.ofNat 0), (0, 0, Int.ofNat 2), (0, 90, Int.ofNat 0)])] (by dsimp only [cq_L_67, al_L_67])
set_option maxRecDepth 100000 in
theorem ah_L_68 : rf_ALT cq_L_68 := rf_alt_inf [(100, [94], [(0, 89, Int.ofNat 0), (0, 90, Int.ofNat 0), (0, 86, Int.ofNat 0)]), (101, [], [(0, 38, Int.ofNat 0), (0, 39, Int.ofNat 0), (0, 40, Int.ofNat 0), (0, 41, Int.ofNat 0), (0, 86, Int.ofNat 0), (0, 87, Int.ofNat 0), (0, 0, Int.ofNat 0), (0, 91, Int.ofNat 0), (0, 0, Int.ofNat 3), (0, 90, Int.ofNat 0)]), (101, [], [(0, 42, Int.ofNat 0), (0, 43, Int.ofNat 0), (0, 44, Int.ofNat 0), (0, 45, Int.ofNat 0), (0, 86, Int.ofNat 0), (0, 87, Int.ofNat 0), (0, 0, Int.ofNat 1), (0, 91, Int.ofNat 0), (0, 0, Int.ofNat 3), (0, 90, Int.ofNat 0)]), (101, [], [(0, 46, Int.ofNat 0), (0, 47, Int.ofNat 0), (0, 48, Int.ofNat 0), (0, 49, Int.ofNat 0), (0, 86, Int.ofNat 0), (0, 87, Int.ofNat 0), (0, 0, Int.ofNat 2), (0, 91, Int.ofNat 0), (0, 0, Int.ofNat 3), (0, 90, Int.ofNat 0)]), (107, [], [(0, 0, Int.ofNat 0), (0, 51, Int.ofNat 0), (0, 52, Int.ofNat 0), (0, 0, Int.ofNat 0), (0, 86, Int.ofNat 0), (0, 87, Int.ofNat 0), (0, 0, Int.ofNat 3), (0, 91, Int.ofNat 0)]), (102, [], [(0, 54, Int.ofNat 0), (0, 55, Int.ofNat 0), (0, 56, Int.ofNat 0), (0, 57, Int.ofNat 0), (0, 86, Int.ofNat 0), (0, 87, Int.ofNat 0), (0, 0, Int.ofNat 4), (0, 91, Int.ofNat 0), (0, 0, Int.ofNat 3), (0, 90, Int.ofNat 0)]), (102, [], [(0, 58, Int.ofNat 0), (0, 59, Int.ofNat 0), (0, 60, Int.ofNat 0), (0, 61, Int.ofNat 0), (0, 86, Int.ofNat 0), (0, 87, Int.ofNat 0), (0, 0, Int.ofNat 5), (0, 91, Int.ofNat 0), (0, 0, Int.ofNat 3), (0, 90, Int.ofNat 0)])] (by dsimp only [cq_L_68, al_L_68])
set_option maxRecDepth 100000 in
theorem ah_L_69 : rf_ALT cq_L_69 := rf_alt_inf [(100, [94], [(0, 89, Int.ofNat 0), (0, 90, Int.ofNat 0), (0, 86, Int.ofNat 0)]), (101, [], [(0, 38, Int.ofNat 0), (0, 39, Int.ofNat 0), (0, 40, Int.ofNat 0), (0, 41, Int.ofNat 0), (0, 86, Int.ofNat 0), (0, 87, Int.ofNat 0), (0, 0, Int.ofNat 0), (0, 91, Int.ofNat 0), (0, 0, Int.ofNat 3), (0, 90, Int.ofNat 0)]), (101, [], [(0, 42, Int.ofNat 0), (0, 43, Int.ofNat 0), (0, 44, Int.ofNat 0), (0, 45, Int.ofNat 0), (0, 86, Int.ofNat 0), (0, 87, Int.ofNat 0), (0, 0, Int.ofNat 1), (0, 91, Int.ofNat 0), (0, 0, Int.ofNat 3), (0, 90, Int.ofNat 0)]), (101, [], [(0, 46, Int.ofNat 0), (0, 47, Int.ofNat 0), (0, 48, Int.ofNat 0), (0, 49, Int.ofNat 0), (0, 86, Int.ofNat 0), (0, 87, Int.ofNat 0), (0, 0, Int.ofNat 2), (0, 91, Int.ofNat 0), (0, 0, Int.ofNat 3), (0, 90, Int.ofNat 0)]), (106, [], [(0, 0, Int.ofNat 1), (0, 90, Int.ofNat 0), (0, 52, Int.ofNat 0), (0, 0, Int.ofNat 0), (0, 86, Int.ofNat 0), (0, 87, Int.ofNat 0), (0, 0, Int.ofNat 3), (0, 91, Int.ofNat 0)]), (102, [], [(0, 54, Int.ofNat 0), (0, 55, Int.ofNat 0), (0, 56, Int.ofNat 0), (0, 57, Int.ofNat 0), (0, 86, Int.ofNat 0), (0, 87, Int.ofNat 0), (0, 0, Int.ofNat 4), (0, 91, Int.ofNat 0), (0, 0, Int.ofNat 3), (0, 90, Int.ofNat 0)]), (102, [], [(0, 58, Int.ofNat 0), (0, 59, Int.ofNat 0), (0, 60, Int.ofNat 0), (0, 61, Int.ofNat 0), (0, 86, Int.ofNat 0), (0, 87, Int.ofNat 0), (0, 0, Int.ofNat 5), (0, 91, Int.ofNat 0), (0, 0, Int.ofNat 3), (0, 90, Int.ofNat 0)])] (by dsimp only [cq_L_69, al_L_69])
set_option maxRecDepth 100000 in
theorem ah_L_70 : rf_ALT cq_L_70 := rf_alt_inf [(100, [94], [(0, 89, Int.ofNat 0), (0, 90, Int.ofNat 0), (0, 86, Int.ofNat 0)]), (101, [], [(0, 38, Int.ofNat 0), (0, 39, Int.ofNat 0), (0, 40, Int.ofNat 0), (0, 41, Int.ofNat 0), (0, 86, Int.ofNat 0), (0, 87, Int.ofNat 0), (0, 0, Int.ofNat 0), (0, 91, Int.ofNat 0), (0, 0, Int.ofNat 4), (0, 90, Int.ofNat 0)]), (101, [], [(0, 42, Int.ofNat 0), (0, 43, Int.ofNat 0), (0, 44, Int.ofNat 0), (0, 45, Int.ofNat 0), (0, 86, Int.ofNat 0), (0, 87, Int.ofNat 0), (0, 0, Int.ofNat 1), (0, 91, Int.ofNat 0), (0, 0, Int.ofNat 4), (0, 90, Int.ofNat 0)]), (101, [], [(0, 46, Int.ofNat 0), (0, 47, Int.ofNat 0), (0, 48, Int.ofNat 0), (0, 49, Int.ofNat 0), (0, 86, Int.ofNat 0), (0, 87, Int.ofNat 0), (0, 0, Int.ofNat 2), (0, 91, Int.ofNat 0), (0, 0, Int.ofNat 4), (0, 90, Int.ofNat 0)]), (101, [], [(0, 50, Int.ofNat 0), (0, 51, Int.ofNat 0), (0, 52, Int.ofNat 0), (0, 53, Int.ofNat 0), (0, 86, Int.ofNat 0), (0, 87, Int.ofNat 0), (0, 0, Int.ofNat 3), (0, 91, Int.ofNat 0), (0, 0, Int.ofNat 4), (0, 90, Int.ofNat 0)]), (107, [], [(0, 0, Int.ofNat 0), (0, 55, Int.ofNat 0), (0, 56, Int.ofNat 0), (0, 0, Int.ofNat 0), (0, 86, Int.ofNat 0), (0, 87, Int.ofNat 0), (0, 0, Int.ofNat 4), (0, 91, Int.ofNat 0)]), (102, [], [(0, 58, Int.ofNat 0), (0, 59, Int.ofNat 0), (0, 60, Int.ofNat 0), (0, 61, Int.ofNat 0), (0, 86, Int.ofNat 0), (0, 87, Int.ofNat 0), (0, 0, Int.ofNat 5), (0, 91, Int.ofNat 0), (0, 0, Int.ofNat 4), (0, 90, Int.ofNat 0)])] (by dsimp only [cq_L_70, al_L_70])
set_option maxRecDepth 100000 in
theorem ah_L_71 : rf_ALT cq_L_71 := rf_alt_inf [(100, [94], [(0, 89, Int.ofNat 0), (0, 90, Int.ofNat 0), (0, 86, Int.ofNat 0)]), (101, [], [(0, 38, Int.ofNat 0), (0, 39, Int.ofNat 0), (0, 40, Int.ofNat 0), (0, 41, Int.ofNat 0), (0, 86, Int.ofNat 0), (0, 87, Int.ofNat 0), (0, 0, Int.ofNat 0), (0, 91, Int.ofNat 0), (0, 0, Int.ofNat 4), (0, 90, Int.ofNat 0)]), (101, [], [(0, 42, Int.ofNat 0), (0, 43, Int.ofNat 0), (0, 44, Int.ofNat 0), (0, 45, Int.ofNat 0), (0, 86, Int.ofNat 0), (0, 87, Int.ofNat 0), (0, 0, Int.ofNat 1), (0, 91, Int.ofNat 0), (0, 0, Int.ofNat 4), (0, 90, Int.ofNat 0)]), (101, [], [(0, 46, Int.ofNat 0), (0, 47, Int.ofNat 0), (0, 48, Int.ofNat 0), (0, 49, Int.ofNat 0), (0, 86, Int.ofNat 0), (0, 87, Int.ofNat 0), (0, 0, Int.ofNat 2), (0, 91, Int.ofNat 0), (0, 0, Int.ofNat 4), (0, 90, Int.ofNat 0)]), (101, [], [(0, 50, Int.ofNat 0), (0, 51, Int.ofNat 0), (0, 52, Int.ofNat 0), (0, 53, Int.ofNat 0), (0, 86, Int.ofNat 0), (0, 87, Int.ofNat 0), (0, 0, Int.ofNat 3), (0, 91, Int.ofNat 0), (0, 0, Int.ofNat 4), (0, 90, Int.ofNat 0)]), (106, [], [(0, 0, Int.ofNat 1), (0, 90, Int.ofNat 0), (0, 56, Int.ofNat 0), (0, 0, Int.ofNat 0), (0, 86, Int.ofNat 0), (0, 87, Int.ofNat 0), (0, 0, Int.ofNat 4), (0, 91, Int.ofNat 0)]), (102, [], [(0, 58, Int.ofNat 0), (0, 59, Int.ofNat 0), (0, 60, Int.ofNat 0), (0, 61, Int.ofNat 0), (0, 86, Int.ofNat 0), (0, 87, Int.ofNat 0), (0, 0, Int.ofNat 5), (0, 91, Int.ofNat 0), (0, 0, Int.ofNat 4), (0, 90, Int.ofNat 0)])] (by dsimp only [cq_L_71, al_L_71])
set_option maxRecDepth 100000 in
theorem ah_L_72 : rf_ALT cq_L_72 := rf_alt_inf [(100, [94], [(0, 89, Int.ofNat 0), (0, 90, Int.ofNat 0), (0, 86, Int.ofNat 0)]), (101, [], [(0, 38, Int.ofNat 0), (0, 39, Int.ofNat 0), (0, 40, Int.ofNat 0), (0, 41, Int.ofNat 0), (0, 86, Int.ofNat 0), (0, 87, Int.ofNat 0), (0, 0, Int.ofNat 0), (0, 91, Int.ofNat 0), (0, 0, Int.ofNat 5), (0, 90, Int.ofNat 0)]), (101, [], [(0, 42, Int.ofNat 0), (0, 43, Int.ofNat 0), (0, 44, Int.ofNat 0), (0, 45, Int.ofNat 0), (0, 86, Int.ofNat 0), (0, 87, Int.ofNat 0), (0, 0, Int.ofNat 1), (0, 91, Int.ofNat 0), (0, 0, Int.ofNat 5), (0, 90, Int.ofNat 0)]), (101, [], [(0, 46, Int.ofNat 0), (0, 47, Int.ofNat 0), (0, 48, Int.ofNat 0), (0, 49, Int.ofNat 0), (0, 86, Int.ofNat 0), (0, 87, Int.ofNat 0), (0, 0, Int.ofNat 2), (0, 91, Int.ofNat 0), (0, 0, Int.ofNat 5), (0, 90, Int.ofNat 0)]), (101, [], [(0, 50, Int.ofNat 0), (0, 51, Int.ofNat 0), (0, 52, Int.ofNat 0), (0, 53, Int.ofNat 0), (0, 86, Int.ofNat 0), (0, 87, Int.ofNat 0), (0, 0, Int.ofNat 3), (0, 91, Int.ofNat 0), (0, 0, Int.ofNat 5), (0, 90, Int.ofNat 0)]), (101, [], [(0, 54, Int.ofNat 0), (0, 55, Int.ofNat 0), (0, 56, Int.ofNat 0), (0, 57, Int.ofNat 0), (0, 86, Int.ofNat 0), (0, 87, Int.ofNat 0), (0, 0, Int.ofNat 4), (0, 91, Int.ofNat 0), (0, 0, Int.ofNat 5), (0, 90, Int.ofNat 0)]), (107, [], [(0, 0, Int.ofNat 0), (0, 59, Int.ofNat 0), (0, 60, Int.ofNat 0), (0, 0, Int.ofNat 0), (0, 86, Int.ofNat 0), (0, 87, Int.ofNat 0), (0, 0, Int.ofNat 5), (0, 91, Int.ofNat 0)])] (by dsimp only [cq_L_72, al_L_72])
set_option maxRecDepth 100000 in
theorem ah_L_73 : rf_ALT cq_L_73 := rf_alt_inf [(100, [94], [(0, 89, Int.ofNat 0), (0, 90, Int.ofNat 0), (0, 86, Int.ofNat 0)]), (101, [], [(0, 38, Int.ofNat 0), (0, 39, Int.ofNat 0), (0, 40, Int.ofNat 0), (0, 41, Int.ofNat 0), (0, 86, Int.ofNat 0), (0, 87, Int.ofNat 0), (0, 0, Int.ofNat 0), (0, 91, Int.ofNat 0), (0, 0, Int.ofNat 5), (0, 90, Int.ofNat 0)]), (101, [], [(0, 42, Int.ofNat 0), (0, 43, Int.ofNat 0), (0, 44, Int.ofNat 0), (0, 45, Int.ofNat 0), (0, 86, Int.ofNat 0), (0, 87, Int.ofNat 0), (0, 0, Int.ofNat 1), (0, 91, Int.ofNat 0), (0, 0, Int.ofNat 5), (0, 90, Int.ofNat 0)]), (101, [], [(0, 46, Int.ofNat 0), (0, 47, Int.ofNat 0), (0, 48, Int.ofNat 0), (0, 49, Int.ofNat 0), (0, 86, Int.ofNat 0), (0, 87, Int.ofNat 0), (0, 0, Int.ofNat 2), (0, 91, Int.ofNat 0), (0, 0, Int.ofNat 5), (0, 90, Int.ofNat 0)]), (101, [], [(0, 50, Int.ofNat 0), (0, 51, Int.ofNat 0), (0, 52, Int.ofNat 0), (0, 53, Int.ofNat 0), (0, 86, Int.ofNat 0), (0, 87, Int.ofNat 0), (0, 0, Int.ofNat 3), (0, 91, Int.ofNat 0), (0, 0, Int.ofNat 5), (0, 90, Int.ofNat 0)]), (101, [], [(0, 54, Int.ofNat 0), (0, 55, Int.ofNat 0), (0, 56, Int.ofNat 0), (0, 57, Int.ofNat 0), (0, 86, Int.ofNat 0), (0, 87, Int.ofNat 0), (0, 0, Int.ofNat 4), (0, 91, Int.ofNat 0), (0, 0, Int.ofNat 5), (0, 90, Int.ofNat 0)]), (106, [], [(0, 0, Int.ofNat 1), (0, 90, Int.ofNat 0), (0, 60, Int.ofNat 0), (0, 0, Int.ofNat 0), (0, 86, Int.ofNat 0), (0, 87, Int.ofNat 0), (0, 0, Int.ofNat 5), (0, 91, Int.ofNat 0)])] (by dsimp only [cq_L_73, al_L_73])
set_option maxRecDepth 100000 in
theorem ah_L_74 : rf_ALT cq_L_74 := rf_alt_inf [] (by dsimp only [cq_L_74, al_L_74])
set_option maxRecDepth 100000 in
theorem ah_L_75 : rf_ALT cq_L_75 := rf_alt_self rfl
set_option maxRecDepth 100000 in
theorem ah_L_76 : rf_ALT cq_L_76 := rf_alt_split [(88, [(Int.negSucc 2147483647, Int.negSucc 0), (Int.ofNat 0, Int.ofNat 0), (Int.ofNat 1, Int.ofNat 1), (Int.ofNat 2, Int.ofNat 2), (Int.ofNat 3, Int.ofNat 3), (Int.ofNat 4, Int.ofNat 4), (Int.ofNat 5, Int.ofNat 5), (Int.ofNat 6, Int.ofNat 2147483647)])] rfl (by decide +kernel)
set_option maxRecDepth 100000 in
theorem ah_L_77 : rf_ALT cq_L_77 := rf_alt_inf [(100, [94], [(0, 89, Int.ofNat 0), (0, 92, Int.ofNat 0), (0, 86, Int.ofNat 0)]), (100, [95], [(0, 89, Int.ofNat 0), (0, 91, Int.ofNat 0), (0, 87, Int.ofNat 0)]), (105, [], [(0, 0, Int.ofNat 2), (0, 39, Int.ofNat 0), (0, 90, Int.ofNat 0), (0, 91, Int.ofNat 0), (0, 86, Int.ofNat 0), (0, 87, Int.ofNat 0), (0, 0, Int.ofNat 0), (0, 93, Int.ofNat 0), (0, 92, Int.ofNat 0), (0, 94, Int.ofNat 0)]), (102, [], [(0, 42, Int.ofNat 0), (0, 43, Int.ofNat 0), (0, 44, Int.ofNat 0), (0, 45, Int.ofNat 0), (0, 86, Int.ofNat 0), (0, 87, Int.ofNat 0), (0, 0, Int.ofNat 1), (0, 93, Int.ofNat 0), (0, 0, Int.ofNat 0), (0, 92, Int.ofNat 0)]), (104, [], [(0, 42, Int.ofNat 0), (0, 43, Int.ofNat 0), (0, 44, Int.ofNat 0), (0, 45, Int.ofNat 0), (0, 93, Int.ofNat 0), (0, 87, Int.ofNat 0), (0, 0, Int.ofNat 1), (0, 94, Int.ofNat 0), (0, 0, Int.ofNat 0), (0, 91, Int.ofNat 0)]), (102, [], [(0, 46, Int.ofNat 0), (0, 47, Int.ofNat 0), (0, 48, Int.ofNat 0), (0, 49, Int.ofNat 0), (0, 86, Int.ofNat 0), (0, 87, Int.ofNat 0), (0, 0, Int.ofNat 2), (0, 93, Int.ofNat 0), (0, 0, Int.ofNat 0), (0, 92, Int.ofNat 0)]), (104, [], [(0, 46, Int.ofNat 0), (0, 47, Int.ofNat 0), (0, 48, Int.ofNat 0), (0, 49, Int.ofNat 0), (0, 93, Int.ofNat 0), (0, 87, Int.ofNat 0), (0, 0, Int.ofNat 2), (0, 94, Int.ofNat 0), (0, 0, Int.ofNat 0), (0, 91, Int.ofNat 0)]), (102, [], [(0, 50, Int.ofNat 0), (0, 51, Int.ofNat 0), (0, 52, Int.ofNat 0), (0, 53, Int.ofNat 0), (0, 86, Int.ofNat 0), (0, 87, Int.ofNat 0), (0, 0, Int.ofNat 3), (0, 93, Int.ofNat 0), (0, 0, Int.ofNat 0), (0, 92, Int.ofNat 0)]), (104, [], [(0, 50, Int.ofNat 0), (0, 51, Int.ofNat 0), (0, 52, Int.ofNat 0), (0, 53, Int.ofNat 0), (0, 93, Int.ofNat 0), (0, 87, Int.ofNat 0), (0, 0, Int.ofNat 3), (0, 94, Int.ofNat 0), (0, 0, Int.ofNat 0), (0, 91, Int.ofNat 0)]), (102, [], [(0, 54, Int.ofNat 0), (0, 55, Int.ofNat 0), (0, 56, Int.ofNat 0), (0, 57, Int.ofNat 0), (0, 86, Int.ofNat 0), (0, 87, Int.ofNat 0), (0, 0, Int.ofNat 4), (0, 93, Int.ofNat 0), (0, 0, Int.ofNat 0), (0, 92, Int.ofNat 0)]), (104, [], [(0, 54, Int.ofNat 0), (0, 55, Int.ofNat 0), (0, 56, Int.ofNat 0), (0, 57, Int.ofNat 0), (0, 93, Int.ofNat 0), (0, 87, Int.ofNat 0), (0, 0, Int.ofNat 4), (0, 94, Int.ofNat 0), (0, 0, Int.ofNat 0), (0, 91, Int.ofNat 0)]), (102, [], [(0, 58, Int.ofNat 0), (0, 59, Int.ofNat 0), (0, 60, Int.ofNat 0), (0, 61, Int.ofNat 0), (0, 86, Int.ofNat 0), (0, 87, Int.ofNat 0), (0, 0, Int.ofNat 5), (0, 93, Int.ofNat 0), (0, 0, Int.ofNat 0), (0, 92, Int.ofNat 0)]), (104, [], [(0, 58, Int.ofNat 0), (0, 59, Int.ofNat 0), (0, 60, Int.ofNat 0), (0, 61, Int.ofNat 0), (0, 93, Int.ofNat 0), (0, 87, Int.ofNat 0), (0, 0, Int.ofNat 5), (0, 94, Int.ofNat 0), (0, 0, Int.ofNat 0), (0, 91, Int.ofNat 0)])] (by dsimp only [cq_L_77, al_L_77])
set_option maxRecDepth 100000 in
theorem ah_L_78 : rf_ALT cq_L_78 := rf_alt_inf [(100, [94], [(0, 89, Int.ofNat 0), (0, 92, Int.ofNat 0), (0, 86, Int.ofNat 0)]), (100, [95], [(0, 89, Int.ofNat 0), (0, 91, Int.ofNat 0), (0, 87, Int.ofNat 0)]), (101, [], [(0, 38, Int.ofNat 0), (0, 39, Int.ofNat 0), (0, 40, Int.ofNat 0), (0, 41, Int.ofNat 0), (0, 86, Int.ofNat 0), (0, 87, Int.ofNat 0), (0, 0, Int.ofNat 0), (0, 93, Int.ofNat 0), (0, 0, Int.ofNat 1), (0, 92, Int.ofNat 0)]), (103, [], [(0, 38, Int.ofNat 0), (0, 39, Int.ofNat 0), (0, 40, Int.ofNat 0), (0, 41, Int.ofNat 0), (0, 93, Int.ofNat 0), (0, 87, Int.ofNat 0), (0, 0, Int.ofNat 0), (0, 94, Int.ofNat 0), (0, 0, Int.ofNat 1), (0, 91, Int.ofNat 0)]), (105, [], [(0, 0, Int.ofNat 2), (0, 43, Int.ofNat 0), (0, 90, Int.ofNat 0), (0, 91, Int.ofNat 0), (0, 86, Int.ofNat 0), (0, 87, Int.ofNat 0), (0, 0, Int.ofNat 1), (0, 93, Int.ofNat 0), (0, 92, Int.ofNat 0), (0, 94, Int.ofNat 0)]), (102, [], [(0, 46, Int.ofNat 0), (0, 47, Int.ofNat 0), (0, 48, Int.ofNat 0), (0, 49, Int.ofNat 0), (0, 86, Int.ofNat 0), (0, 87, Int.ofNat 0), (0, 0, Int.ofNat 2), (0, 93, Int.ofNat 0), (0, 0, Int.ofNat 1), (0, 92, Int.ofNat 0)]), (104, [], [(0, 46, Int.ofNat 0), (0, 47, Int.ofNat 0), (0, 48, Int.ofNat 0), (0, 49, Int.ofNat 0), (0, 93, Int.ofNat 0), (0, 87, Int.ofNat 0), (0, 0, Int.ofNat 2), (0, 94, Int.ofNat 0), (0, 0, Int.ofNat 1), (0, 91, Int.ofNat 0)]), (102, [], [(0, 50, Int.ofNat 0), (0, 51, Int.ofNat 0), (0, 52, Int.ofNat 0), (0, 53, Int.ofNat 0), (0, 86, Int.ofNat 0), (0, 87, Int.ofNat 0), (0, 0, Int.ofNat 3), (0, 93, Int.ofNat 0), (0, 0, Int.ofNat 1), (0, 92, Int.ofNat 0)]), (104, [], [(0, 50, Int.ofNat 0), (0, 51, Int.ofNat 0), (0, 52, Int.ofNat 0), (0, 53, Int.ofNat 0), (0, 93, Int.ofNat 0), (0, 87, Int.ofNat 0), (0, 0, Int.ofNat 3), (0, 94, Int.ofNat 0), (0, 0, Int.ofNat 1), (0, 91, Int.ofNat 0)]), (102, [], [(0, 54, Int.ofNat 0), (0, 55, Int.ofNat 0), (0, 56, Int.ofNat 0), (0, 57, Int.ofNat 0), (0, 86, Int.ofNat 0), (0, 87, Int.ofNat 0), (0, 0, Int.ofNat 4), (0, 93, Int.ofNat 0), (0, 0, Int.ofNat 1), (0, 92, Int.ofNat 0)]), (104, [], [(0, 54, Int.ofNat 0), (0, 55, Int.ofNat 0), (0, 56, Int.ofNat 0), (0, 57, Int.ofNat 0), (0, 93, Int.ofNat 0), (0, 87, Int.ofNat 0), (0, 0, Int.ofNat 4), (0, 94, Int.ofNat 0), (0, 0, Int.ofNat 1), (0, 91, Int.ofNat 0)]), (102, [], [(0, 58, Int.ofNat 0), (0, 59, Int.ofNat 0), (0, 60, Int.ofNat 0), (0, 61, Int.ofNat 0), (0, 86, Int.ofNat 0), (0, 87, Int.ofNat 0), (0, 0, Int.ofNat 5), (0, 93, Int.ofNat 0), (0, 0, Int.ofNat 1), (0, 92, Int.ofNat 0)]), (104, [], [(0, 58, Int.ofNat 0), (0, 59, Int.ofNat 0), (0, 60, Int.ofNat 0), (0, 61, Int.ofNat 0), (0, 93, Int.ofNat 0), (0, 87, Int.ofNat 0), (0, 0, Int.ofNat 5), (0, 94, Int.ofNat 0), (0, 0, Int.ofNat 1), (0, 91, Int.ofNat 0)])] (by dsimp only [cq_L_78, al_L_78])
set_option maxRecDepth 100000 in
theorem ah_L_79 : rf_ALT cq_L_79 := rf_alt_inf [(100, [94], [(0, 89, Int.ofNat 0), (0, 92, Int.ofNat 0), (0, 86, Int.ofNat 0)]), (100, [95], [(0, 89, Int.ofNat 0), (0, 91, Int.ofNat 0), (0, 87, Int.ofNat 0)]), (101, [], [(0, 38, Int.ofNat 0), (0, 39, Int.ofNat 0), (0, 40, Int.ofNat 0), (0, 41, Int.ofNat 0), (0, 86, Int.ofNat 0), (0, 87, Int.ofNat 0), (0, 0, Int.ofNat 0), (0, 93, Int.ofNat 0), (0, 0, Int.ofNat 2), (0, 92, Int.ofNat 0)]), (103, [], [(0, 38, Int.ofNat 0), (0, 39, Int.ofNat 0), (0, 40, Int.ofNat 0), (0, 41, Int.ofNat 0), (0, 93, Int.ofNat 0), (0, 87, Int.ofNat 0), (0, 0, Int.ofNat 0), (0, 94, Int.ofNat 0), (0, 0, Int.ofNat 2), (0, 91, Int.ofNat 0)]), (101, [], [(0, 42, Int.ofNat 0), (0, 43, Int.ofNat 0), (0, 44, Int.ofNat 0), (0, 45, Int.ofNat 0), (0, 86, Int.ofNat 0), (0, 87, Int.ofNat 0), (0, 0, Int.ofNat 1), (0, 93, Int.ofNat 0), (0, 0, Int.ofNat 2), (0, 92, Int.ofNat 0)]), (103, [], [(0, 42, Int.ofNat 0), (0, 43, Int.ofNat 0), (0, 44, Int.ofNat 0), (0, 45, Int.ofNat 0), (0, 93, Int.ofNat 0), (0, 87, Int.ofNat 0), (0, 0, Int.ofNat 1), (0, 94, Int.ofNat 0), (0, 0, Int.ofNat 2), (0, 91, Int.ofNat 0)]), (105, [], [(0, 0, Int.ofNat 2), (0, 47, Int.ofNat 0), (0, 90, Int.ofNat 0), (0, 91, Int.ofNat 0), (0, 86, Int.ofNat 0), (0, 87, Int.ofNat 0), (0, 0, Int.ofNat 2), (0, 93, Int.ofNat 0), (0, 92, Int.ofNat 0), (0, 94, Int.ofNat 0)]), (102, [], [(0, 50, Int.ofNat 0), (0, 51, Int.ofNat 0), (0, 52, Int.ofNat 0), (0, 53, Int.ofNat 0), (0, 86, Int.ofNat 0), (0, 87, Int.ofNat 0), (0, 0, Int.ofNat 3), (0, 93, Int.ofNat 0), (0, 0, Int.ofNat 2), (0, 92, Int.ofNat 0)]), (104, [], [(0, 50, Int.ofNat 0), (0, 51, Int.ofNat 0), (0, 52, Int.ofNat 0), (0, 53, Int.ofNat 0), (0, 93, Int.ofNat 0), (0, 87, Int.ofNat 0), (0, 0, Int.ofNat 3), (0, 94, Int.ofNat 0), (0, 0, Int.ofNat 2), (0, 91, Int.ofNat 0)]), (102, [], [(0, 54, Int.ofNat 0), (0, 55, Int.ofNat 0), (0, 56, Int.ofNat 0), (0, 57, Int.ofNat 0), (0, 86, Int.ofNat 0), (0, 87, Int.ofNat 0), (0, 0, Int.ofNat 4), (0, 93, Int.ofNat 0), (0, 0, Int.ofNat 2), (0, 92, Int.ofNat 0)]), (104, [], [(0, 54, Int.ofNat 0), (0, 55, Int.ofNat 0), (0, 56, Int.ofNat 0), (0, 57, Int.ofNat 0), (0, 93, Int.ofNat 0), (0, 87, Int.ofNat 0), (0, 0, Int.ofNat 4), (0, 94, Int.ofNat 0), (0, 0, Int.ofNat 2), (0, 91, Int.ofNat 0)]), (102, [], [(0, 58, Int.ofNat 0), (0, 59, Int.ofNat 0), (0, 60, Int.ofNat 0), (0, 61, Int.ofNat 0), (0, 86, Int.ofNat 0), (0, 87, Int.ofNat 0), (0, 0, Int.ofNat 5), (0, 93, Int.ofNat 0), (0, 0, Int.ofNat 2), (0, 92, Int.ofNat 0)]), (104, [], [(0, 58, Int.ofNat 0), (0, 59, Int.ofNat 0), (0, 60, Int.ofNat 0), (0, 61, Int.ofNat 0), (0, 93, Int.ofNat 0), (0, 87, Int.ofNat 0), (0, 0, Int.ofNat 5), (0, 94, Int.ofNat 0), (0, 0, Int.ofNat 2), (0, 91, Int.ofNat 0)])] (by dsimp only [cq_L_79, al_L_79])
set_option maxRecDepth 100000 in
theorem ah_L_80 : rf_ALT cq_L_80 := rf_alt_inf [(100, [94], [(0, 89, Int.ofNat 0), (0, 92, Int.ofNat 0), (0, 86, Int.ofNat 0)]), (100, [95], [(0, 89, Int.ofNat 0), (0, 91, Int.ofNat 0), (0, 87, Int.ofNat 0)]), (101, [], [(0, 38, Int.ofNat 0), (0, 39, Int.ofNat 0), (0, 40, Int.ofNat 0), (0, 41, Int.ofNat 0), (0, 86, Int.ofNat 0), (0, 87, Int.ofNat 0), (0, 0, Int.ofNat 0), (0, 93, Int.ofNat 0), (0, 0, Int.ofNat 3), (0, 92, Int.ofNat 0)]), (103, [], [(0, 38, Int.ofNat 0), (0, 39, Int.ofNat 0), (0, 40, Int.ofNat 0), (0, 41, Int.ofNat 0), (0, 93, Int.ofNat 0), (0, 87, Int.ofNat 0), (0, 0, Int.ofNat 0), (0, 94, Int.ofNat 0), (0, 0, Int.ofNat 3), (0, 91, Int.ofNat 0)]), (101, [], [(0, 42, Int.ofNat 0), (0, 43, Int.ofNat 0), (0, 44, Int.ofNat 0), (0, 45, Int.ofNat 0), (0, 86, Int.ofNat 0), (0, 87, Int.ofNat 0), (0, 0, Int.ofNat 1), (0, 93, Int.ofNat 0), (0, 0, Int.ofNat 3), (0, 92, Int.ofNat 0)]), (103, [], [(0, 42, Int.ofNat 0), (0, 43, Int.ofNat 0), (0, 44, Int.ofNat 0), (0, 45, Int.ofNat 0), (0, 93, Int.ofNat 0), (0, 87, Int.ofNat 0), (0, 0, Int.ofNat 1), (0, 94, Int.ofNat 0), (0, 0, Int.ofNat 3), (0, 91, Int.ofNat 0)]), (101, [], [(0, 46, Int.ofNat 0), (0, 47, Int.ofNat 0), (0, 48, Int.ofNat 0), (0, 49, Int.ofNat 0), (0, 86, Int.ofNat 0), (0, 87, Int.ofNat 0), (0, 0, Int.ofNat 2), (0, 93, Int.ofNat 0), (0, 0, Int.ofNat 3), (0, 92, Int.ofNat 0)]), (103, [], [(0, 46, Int.ofNat 0), (0, 47, Int.ofNat 0), (0, 48, Int.ofNat 0), (0, 49, Int.ofNat 0), (0, 93, Int.ofNat 0), (0, 87, Int.ofNat 0), (0, 0, Int.ofNat 2), (0, 94, Int.ofNat 0), (0, 0, Int.ofNat 3), (0, 91, Int.ofNat 0)]), (105, [], [(0, 0, Int.ofNat 2), (0, 51, Int.ofNat 0), (0, 90, Int.ofNat 0), (0, 91, Int.ofNat 0), (0, 86, Int.ofNat 0), (0, 87, Int.ofNat 0), (0, 0, Int.ofNat 3), (0, 93, Int.ofNat 0), (0, 92, Int.ofNat 0), (0, 94, Int.ofNat 0)]), (102, [], [(0, 54, Int.ofNat 0), (0, 55, Int.ofNat 0), (0, 56, Int.ofNat 0), (0, 57, Int.ofNat 0), (0, 86, Int.ofNat 0), (0, 87, Int.ofNat 0), (0, 0, Int.ofNat 4), (0, 93, Int.ofNat 0), (0, 0, Int.ofNat 3), (0, 92, Int.ofNat 0)]), (104, [], [(0, 54, Int.ofNat 0), (0, 55, Int.ofNat 0), (0, 56, Int.ofNat 0), (0, 57, Int.ofNat 0), (0, 93, Int.ofNat 0), (0, 87, Int.ofNat 0), (0, 0, Int.ofNat 4), (0, 94, Int.ofNat 0), (0, 0, Int.ofNat 3), (0, 91, Int.ofNat 0)]), (102, [], [(0, 58, Int.ofNat 0), (0, 59, Int.ofNat 0), (0, 60, Int.ofNat 0), (0, 61, Int.ofNat 0), (0, 86, Int.ofNat 0), (0, 87, Int.ofNat 0), (0, 0, Int.ofNat 5), (0, 93, Int.ofNat 0), (0, 0, Int.ofNat 3), (0, 92, Int.ofNat 0)]), (104, [], [(0, 58, Int.ofNat 0), (0, 59, Int.ofNat 0), (0, 60, Int.ofNat 0), (0, 61, Int.ofNat 0), (0, 93, Int.ofNat 0), (0, 87, Int.ofNat 0), (0, 0, Int.ofNat 5), (0, 94, Int.ofNat 0), (0, 0, Int.ofNat 3), (0, 91, Int.ofNat 0)])] (by dsimp only [cq_L_80, al_L_80])
set_option maxRecDepth 100000 in
theorem ah_L_81 : rf_ALT cq_L_81 := rf_alt_inf [(100, [94], [(0, 89, Int.ofNat 0), (0, 92, Int.ofNat 0), (0, 86, Int.ofNat 0)]), (100, [95], [(0, 89, Int.ofNat 0), (0, 91, Int.ofNat 0), (0, 87, Int.ofNat 0)]), (101, [], [(0, 38, Int.ofNat 0), (0, 39, Int.ofNat 0), (0, 40, Int.ofNat 0), (0, 41, Int.ofNat 0), (0, 86, Int.ofNat 0), (0, 87, Int.ofNat 0), (0, 0, Int.ofNat 0), (0, 93, Int.ofNat 0), (0, 0, Int.ofNat 4), (0, 92, Int.ofNat 0)]), (103, [], [(0, 38, Int.ofNat 0), (0, 39, Int.ofNat 0), (0, 40, Int.ofNat 0), (0, 41, Int.ofNat 0), (0, 93, Int.ofNat 0), (0, 87, Int.ofNat 0), (0, 0, Int.ofNat 0), (0, 94, Int.ofNat 0), (0, 0, Int.ofNat 4), (0, 91, Int.ofNat 0)]), (101, [], [(0, 42, Int.ofNat 0), (0, 43, Int.ofNat 0), (0, 44, Int.ofNat 0), (0, 45, Int.ofNat 0), (0, 86, Int.ofNat 0), (0, 87, Int.ofNat 0), (0, 0, Int.ofNat 1), (0, 93, Int.ofNat 0), (0, 0, Int.ofNat 4), (0, 92, Int.ofNat 0)]), (103, [], [(0, 42, Int.ofNat 0), (0, 43, Int.ofNat 0), (0, 44, Int.ofNat 0), (0, 45, Int.ofNat 0), (0, 93, Int.ofNat 0), (0, 87, Int.ofNat 0), (0, 0, Int.ofNat 1), (0, 94, Int.ofNat 0), (0, 0, Int.ofNat 4), (0, 91, Int.ofNat 0)]), (101, [], [(0, 46, Int.ofNat 0), (0, 47, Int.ofNat 0), (0, 48, Int.ofNat 0), (0, 49, Int.ofNat 0), (0, 86, Int.ofNat 0), (0, 87, Int.ofNat 0), (0, 0, Int.ofNat 2), (0, 93, Int.ofNat 0), (0, 0, Int.ofNat 4), (0, 92, Int.ofNat 0)]), (103, [], [(0, 46, Int.ofNat 0), (0, 47, Int.ofNat 0), (0, 48, Int.ofNat 0), (0, 49, Int.ofNat 0), (0, 93, Int.ofNat 0), (0, 87, Int.ofNat 0), (0, 0, Int.ofNat 2), (0, 94, Int.ofNat 0), (0, 0, Int.ofNat 4), (0, 91, Int.ofNat 0)]), (101, [], [(0, 50, Int.ofNat 0), (0, 51, Int.ofNat 0), (0, 52, Int.ofNat 0), (0, 53, Int.ofNat 0), (0, 86, Int.ofNat 0), (0, 87, Int.ofNat 0), (0, 0, Int.ofNat 3), (0, 93, Int.ofNat 0), (0, 0, Int.ofNat 4), (0, 92, Int.ofNat 0)]), (103, [], [(0, 50, Int.ofNat 0), (0, 51, Int.ofNat 0), (0, 52, Int.ofNat 0), (0, 53, Int.ofNat 0), (0, 93, Int.ofNat 0), (0, 87, Int.ofNat 0), (0, 0, Int.ofNat 3), (0, 94, Int.ofNat 0), (0, 0, Int.ofNat 4), (0, 91, Int.ofNat 0)]), (105, [], [(0, 0, Int.ofNat 2), (0, 55, Int.ofNat 0), (0, 90, Int.ofNat 0), (0, 91, Int.ofNat 0), (0, 86, Int.ofNat 0), (0, 87, Int.ofNat 0), (0, 0, Int.ofNat 4), (0, 93, Int.ofNat 0), (0, 92, Int.ofNat 0), (0, 94, Int.ofNat 0)]), (102, [], [(0, 58, Int.ofNat 0), (0, 59, Int.ofNat 0), (0, 60, Int.ofNat 0), (0, 61, Int.ofNat 0), (0, 86, Int.ofNat 0), (0, 87, Int.ofNat 0), (0, 0, Int.ofNat 5), (0, 93, Int.ofNat 0), (0, 0, Int.ofNat 4), (0, 92, Int.ofNat 0)]), (104, [], [(0, 58, Int.ofNat 0), (0, 59, Int.ofNat 0), (0, 60, Int.ofNat 0), (0, 61, Int.ofNat 0), (0, 93, Int.ofNat 0), (0, 87, Int.ofNat 0), (0, 0, Int.ofNat 5), (0, 94, Int.ofNat 0), (0, 0, Int.ofNat 4), (0, 91, Int.ofNat 0)])] (by dsimp only [cq_L_81, al_L_81])
set_option maxRecDepth 100000 in
theorem ah_L_82 : rf_ALT cq_L_82 := rf_alt_inf [(100, [94], [(0, 89, Int.ofNat 0), (0, 92, Int.ofNat 0), (0, 86, Int.ofNat 0)]), (100, [95], [(0, 89, Int.ofNat 0), (0, 91, Int.ofNat 0), (0, 87, Int.ofNat 0)]), (101, [], [(0, 38, Int.ofNat 0), (0, 39, Int.ofNat 0), (0, 40, Int.ofNat 0), (0, 41, Int.ofNat 0), (0, 86, Int.ofNat 0), (0, 87, Int.ofNat 0), (0, 0, Int.ofNat 0), (0, 93, Int.ofNat 0), (0, 0, Int.ofNat 5), (0, 92, Int.ofNat 0)]), (103, [], [(0, 38, Int.ofNat 0), (0, 39, Int.ofNat 0), (0, 40, Int.ofNat 0), (0, 41, Int.ofNat 0), (0, 93, Int.ofNat 0), (0, 87, Int.ofNat 0), (0, 0, Int.ofNat 0), (0, 94, Int.ofNat 0), (0, 0, Int.ofNat 5), (0, 91, Int.ofNat 0)]), (101, [], [(0, 42, Int.ofNat 0), (0, 43, Int.ofNat 0), (0, 44, Int.ofNat 0), (0, 45, Int.ofNat 0), (0, 86, Int.ofNat 0), (0, 87, Int.ofNat 0), (0, 0, Int.ofNat 1), (0, 93, Int.ofNat 0), (0, 0, Int.ofNat 5), (0, 92, Int.ofNat 0)]), (103, [], [(0, 42, Int.ofNat 0), (0, 43, Int.ofNat 0), (0, 44, Int.ofNat 0), (0, 45, Int.ofNat 0), (0, 93, Int.ofNat 0), (0, 87, Int.ofNat 0), (0, 0, Int.ofNat 1), (0, 94, Int.ofNat 0), (0, 0, Int.ofNat 5), (0, 91, Int.ofNat 0)]), (101, [], [(0, 46, Int.ofNat 0), (0, 47, Int.ofNat 0), (0, 48, Int.ofNat 0), (0, 49, Int.ofNat 0), (0, 86, Int.ofNat 0), (0, 87, Int.ofNat 0), (0, 0, Int.ofNat 2), (0, 93, Int.ofNat 0), (0, 0, Int.ofNat 5), (0, 92, Int.ofNat 0)]), (103, [], [(0, 46, Int.ofNat 0), (0, 47, Int.ofNat 0), (0, 48, Int.ofNat 0), (0, 49, Int.ofNat 0), (0, 93, Int.ofNat 0), (0, 87, Int.ofNat 0), (0, 0, Int.ofNat 2), (0, 94, Int.ofNat 0), (0, 0, Int.ofNat 5), (0, 91, Int.ofNat 0)]), (101, [], [(0, 50, Int.ofNat 0), (0, 51, Int.ofNat 0), (0, 52, Int.ofNat 0), (0, 53, Int.ofNat 0), (0, 86, Int.ofNat 0), (0, 87, Int.ofNat 0), (0, 0, Int.ofNat 3), (0, 93, Int.ofNat 0), (0, 0, Int.ofNat 5), (0, 92, Int.ofNat 0)]), (103, [], [(0, 50, Int.ofNat 0), (0, 51, Int.ofNat 0), (0, 52, Int.ofNat 0), (0, 53, Int.ofNat 0), (0, 93, Int.ofNat 0), (0, 87, Int.ofNat 0), (0, 0, Int.ofNat 3), (0, 94, Int.ofNat 0), (0, 0, Int.ofNat 5), (0, 91, Int.ofNat 0)]), (101, [], [(0, 54, Int.ofNat 0), (0, 55, Int.ofNat 0), (0, 56, Int.ofNat 0), (0, 57, Int.ofNat 0), (0, 86, Int.ofNat 0), (0, 87, Int.ofNat 0), (0, 0, Int.ofNat 4), (0, 93, Int.ofNat 0), (0, 0, Int.ofNat 5), (0, 92, Int.ofNat 0)]), (103, [], [(0, 54, Int.ofNat 0), (0, 55, Int.ofNat 0), (0, 56, Int.ofNat 0), (0, 57, Int.ofNat 0), (0, 93, Int.ofNat 0), (0, 87, Int.ofNat 0), (0, 0, Int.ofNat 4), (0, 94, Int.ofNat 0), (0, 0, Int.ofNat 5), (0, 91, Int.ofNat 0)]), (105, [], [(0, 0, Int.ofNat 2), (0, 59, Int.ofNat 0), (0, 90, Int.ofNat 0), (0, 91, Int.ofNat 0), (0, 86, Int.ofNat 0), (0, 87, Int.ofNat 0), (0, 0, Int.ofNat 5), (0, 93, Int.ofNat 0), (0, 92, Int.ofNat 0), (0, 94, Int.ofNat 0)])] (by dsimp only [cq_L_82, al_L_82])
set_option maxRecDepth 100000 in
theorem ah_L_83 : rf_ALT cq_L_83 := rf_alt_inf [] (by dsimp only [cq_L_83, al_L_83])
set_option maxRecDepth 100000 in
theorem ah_L_84 : rf_ALT cq_L_84 := rf_alt_inf [] (by dsimp only [cq_L_84, al_L_84])
set_option maxRecDepth 100000 in
theorem ah_L_85 : rf_ALT cq_L_85 := rf_alt_self rfl
set_option maxRecDepth 100000 in
theorem ah_L_86 : rf_ALT cq_L_86 := rf_alt_self rfl
set_option maxRecDepth 100000 in
theorem ah_L_87 : rf_ALT cq_L_87 := rf_alt_self rfl
set_option maxRecDepth 100000 in
theorem ah_L_88 : rf_ALT cq_L_88 := rf_alt_self rfl
set_option maxRecDepth 100000 in
theorem ah_L_89 : rf_ALT cq_L_89 := rf_alt_self rfl
set_option maxRecDepth 100000 in
theorem ah_L_90 : rf_ALT cq_L_90 := rf_alt_self rfl
set_option maxRecDepth 100000 in
theorem ah_L_91 : rf_ALT cq_L_91 := rf_alt_self rfl
set_option maxRecDepth 100000 in
theorem ah_L_92 : rf_ALT cq_L_92 := rf_alt_self rfl
set_option maxRecDepth 100000 in
theorem ah_L_93 : rf_ALT cq_L_93 := rf_alt_self rfl
set_option maxRecDepth 100000 in
theorem ah_L_94 : rf_ALT cq_L_94 := rf_alt_self rfl
set_option maxRecDepth 100000 in
theorem ah_L_95 : rf_ALT cq_L_95 := rf_alt_self rfl
set_option maxRecDepth 100000 in
theorem ah_L_96 : rf_ALT cq_L_96 := rf_alt_self rfl
set_option maxRecDepth 100000 in
theorem ah_L_97 : rf_ALT cq_L_97 := rf_alt_self rfl
set_option maxRecDepth 100000 in
theorem ah_L_98 : rf_ALT cq_L_98 := rf_alt_self rfl
set_option maxRecDepth 100000 in
theorem ah_L_99 : rf_ALT cq_L_99 := rf_alt_self rfl
set_option maxRecDepth 100000 in
theorem ah_L_100 : rf_ALT cq_L_100 := rf_alt_self rfl
set_option maxRecDepth 100000 in
theorem ah_L_101 : rf_ALT cq_L_101 := rf_alt_self rfl
set_option maxRecDepth 100000 in
theorem ah_L_102 : rf_ALT cq_L_102 := rf_alt_self rfl
set_option maxRecDepth 100000 in
theorem ah_L_103 : rf_ALT cq_L_103 := rf_alt_self rfl
set_option maxRecDepth 100000 in
theorem ah_L_104 : rf_ALT cq_L_104 := rf_alt_self rfl
set_option maxRecDepth 100000 in
theorem ah_L_105 : rf_ALT cq_L_105 := rf_alt_self rfl
set_option maxRecDepth 100000 in
theorem ah_L_106 : rf_ALT cq_L_106 := rf_alt_self rfl
set_option maxRecDepth 100000 in
theorem ah_L_107 : rf_ALT cq_L_107 := rf_alt_self rfl
set_option maxRecDepth 100000 in
theorem ah_L_108 : rf_ALT cq_L_108 := rf_alt_self rfl
set_option maxRecDepth 100000 in
theorem ah_L_109 : rf_ALT cq_L_109 := rf_alt_self rfl
set_option maxRecDepth 100000 in
theorem ah_L_110 : rf_ALT cq_L_110 := rf_alt_self rfl
set_option maxRecDepth 100000 in
theorem ah_L_111 : rf_ALT cq_L_111 := rf_alt_self rfl
set_option maxRecDepth 100000 in
theorem ah_L_112 : rf_ALT cq_L_112 := rf_alt_self rfl
set_option maxRecDepth 100000 in
theorem ah_L_113 : rf_ALT cq_L_113 := rf_alt_self rfl
set_option maxRecDepth 100000 in
theorem ah_L_114 : rf_ALT cq_L_114 := rf_alt_self rfl
set_option maxRecDepth 100000 in
theorem ah_L_115 : rf_ALT cq_L_115 := rf_alt_inf [(135, [], [(0, 91, Int.ofNat 0), (0, 91, Int.ofNat 0), (0, 98, Int.ofNat 0), (0, 94, Int.ofNat 0), (0, 86, Int.ofNat 0)]), (135, [], [(0, 89, Int.ofNat 0), (0, 89, Int.ofNat 0), (0, 99, Int.ofNat 0), (0, 96, Int.ofNat 0), (0, 86, Int.ofNat 0)])] (by dsimp only [cq_L_115, al_L_115])
set_option maxRecDepth 100000 in
theorem ah_L_116 : rf_ALT cq_L_116 := rf_alt_inf [(135, [], [(0, 91, Int.ofNat 0), (0, 91, Int.ofNat 0), (0, 98, Int.ofNat 0), (0, 94, Int.ofNat 0), (0, 86, Int.ofNat 0)]), (135, [], [(0, 89, Int.ofNat 0), (0, 89, Int.ofNat 0), (0, 99, Int.ofNat 0), (0, 96, Int.ofNat 0), (0, 86, Int.ofNat 0)])] (by dsimp only [cq_L_116, al_L_116])
set_option maxRecDepth 100000 in
theorem ah_L_117 : rf_ALT cq_L_117 := rf_alt_inf [(135, [], [(0, 91, Int.ofNat 0), (0, 91, Int.ofNat 0), (0, 94, Int.ofNat 0), (0, 0, Int.negSucc 0), (0, 86, Int.ofNat 0)])] (by dsimp only [cq_L_117, al_L_117])
set_option maxRecDepth 100000 in
theorem ah_L_118 : rf_ALT cq_L_118 := rf_alt_inf [(135, [], [(0, 91, Int.ofNat 0), (0, 91, Int.ofNat 0), (0, 98, Int.ofNat 0), (0, 94, Int.ofNat 0), (0, 86, Int.ofNat 0)]), (135, [], [(0, 89, Int.ofNat 0), (0, 89, Int.ofNat 0), (0, 99, Int.ofNat 0), (0, 96, Int.ofNat 0), (0, 86, Int.ofNat 0)]), (151, [], [(0, 98, Int.ofNat 0), (0, 96, Int.ofNat 0), (0, 98, Int.ofNat 0), (0, 98, Int.ofNat 0)])] (by dsimp only [cq_L_118, al_L_118])
set_option maxRecDepth 100000 in
theorem ah_L_119 : rf_ALT cq_L_119 := rf_alt_inf [(135, [], [(0, 91, Int.ofNat 0), (0, 91, Int.ofNat 0), (0, 95, Int.ofNat 0), (0, 0, Int.negSucc 0), (0, 86, Int.ofNat 0)])] (by dsimp only [cq_L_119, al_L_119])
set_option maxRecDepth 100000 in
theorem ah_L_120 : rf_ALT cq_L_120 := rf_alt_inf [(135, [], [(0, 91, Int.ofNat 0), (0, 91, Int.ofNat 0), (0, 95, Int.ofNat 0), (0, 94, Int.ofNat 0), (0, 86, Int.ofNat 0)])] (by dsimp only [cq_L_120, al_L_120])
set_option maxRecDepth 100000 in
theorem ah_L_121 : rf_ALT cq_L_121 := rf_alt_inf [(135, [], [(0, 91, Int.ofNat 0), (0, 91, Int.ofNat 0), (0, 98, Int.ofNat 0), (0, 94, Int.ofNat 0), (0, 86, Int.ofNat 0)]), (135, [], [(0, 89, Int.ofNat 0), (0, 89, Int.ofNat 0), (0, 99, Int.ofNat 0), (0, 96, Int.ofNat 0), (0, 86, Int.ofNat 0)]), (151, [], [(0, 99, Int.ofNat 0), (0, 94, Int.ofNat 0), (0, 98, Int.ofNat 0), (0, 98, Int.ofNat 0)])] (by dsimp only [cq_L_121, al_L_121])
set_option maxRecDepth 100000 in
theorem ah_L_122 : rf_ALT cq_L_122 := rf_alt_inf [(135, [], [(0, 91, Int.ofNat 0), (0, 91, Int.ofNat 0), (0, 96, Int.ofNat 0), (0, 0, Int.negSucc 0), (0, 86, Int.ofNat 0)])] (by dsimp only [cq_L_122, al_L_122])
set_option maxRecDepth 100000 in
theorem ah_L_123 : rf_ALT cq_L_123 := rf_alt_inf [(135, [], [(0, 91, Int.ofNat 0), (0, 91, Int.ofNat 0), (0, 96, Int.ofNat 0), (0, 94, Int.ofNat 0), (0, 86, Int.ofNat 0)]), (135, [], [(0, 89, Int.ofNat 0), (0, 89, Int.ofNat 0), (0, 97, Int.ofNat 0), (0, 0, Int.negSucc 0), (0, 86, Int.ofNat 0)])] (by dsimp only [cq_L_123, al_L_123])
set_option maxRecDepth 100000 in
theorem ah_L_124 : rf_ALT cq_L_124 := rf_alt_inf [(135, [], [(0, 91, Int.ofNat 0), (0, 91, Int.ofNat 0), (0, 96, Int.ofNat 0), (0, 94, Int.ofNat 0), (0, 86, Int.ofNat 0)])] (by dsimp only [cq_L_124, al_L_124])
set_option maxRecDepth 100000 in
theorem ah_L_125 : rf_ALT cq_L_125 := rf_alt_inf [(135, [], [(0, 91, Int.ofNat 0), (0, 91, Int.ofNat 0), (0, 97, Int.ofNat 0), (0, 94, Int.ofNat 0), (0, 86, Int.ofNat 0)]), (135, [], [(0, 89, Int.ofNat 0), (0, 89, Int.ofNat 0), (0, 98, Int.ofNat 0), (0, 96, Int.ofNat 0), (0, 86, Int.ofNat 0)])] (by dsimp only [cq_L_125, al_L_125])
set_option maxRecDepth 100000 in
theorem ah_L_126 : rf_ALT cq_L_126 := rf_alt_inf [(135, [], [(0, 91, Int.ofNat 0), (0, 91, Int.ofNat 0), (0, 97, Int.ofNat 0), (0, 94, Int.ofNat 0), (0, 86, Int.ofNat 0)])] (by dsimp only [cq_L_126, al_L_126])
set_option maxRecDepth 100000 in
theorem ah_L_127 : rf_ALT cq_L_127 := rf_alt_inf [(135, [], [(0, 89, Int.ofNat 0), (0, 89, Int.ofNat 0), (0, 98, Int.ofNat 0), (0, 96, Int.ofNat 0), (0, 86, Int.ofNat 0)])] (by dsimp only [cq_L_127, al_L_127])
set_option maxRecDepth 100000 in
theorem ah_L_128 : rf_ALT cq_L_128 := rf_alt_inf [(135, [], [(0, 91, Int.ofNat 0), (0, 91, Int.ofNat 0), (0, 98, Int.ofNat 0), (0, 94, Int.ofNat 0), (0, 86, Int.ofNat 0)])] (by dsimp only [cq_L_128, al_L_128])
set_option maxRecDepth 100000 in
theorem ah_L_129 : rf_ALT cq_L_129 := rf_alt_inf [(135, [], [(0, 91, Int.ofNat 0), (0, 91, Int.ofNat 0), (0, 98, Int.ofNat 0), (0, 94, Int.ofNat 0), (0, 86, Int.ofNat 0)])] (by dsimp only [cq_L_129, al_L_129])
set_option maxRecDepth 100000 in
theorem ah_L_130 : rf_ALT cq_L_130 := rf_alt_inf [(135, [], [(0, 91, Int.ofNat 0), (0, 91, Int.ofNat 0), (0, 98, Int.ofNat 0), (0, 94, Int.ofNat 0), (0, 86, Int.ofNat 0)]), (135, [], [(0, 89, Int.ofNat 0), (0, 89, Int.ofNat 0), (0, 99, Int.ofNat 0), (0, 96, Int.ofNat 0), (0, 86, Int.ofNat 0)])] (by dsimp only [cq_L_130, al_L_130])
set_option maxRecDepth 100000 in
theorem ah_L_131 : rf_ALT cq_L_131 := rf_alt_inf [(135, [], [(0, 91, Int.ofNat 0), (0, 91, Int.ofNat 0), (0, 98, Int.ofNat 0), (0, 94, Int.ofNat 0), (0, 86, Int.ofNat 0)])] (by dsimp only [cq_L_131, al_L_131])
set_option maxRecDepth 100000 in
theorem ah_L_132 : rf_ALT cq_L_132 := rf_alt_inf [(135, [], [(0, 91, Int.ofNat 0), (0, 91, Int.ofNat 0), (0, 98, Int.ofNat 0), (0, 94, Int.ofNat 0), (0, 86, Int.ofNat 0)])] (by dsimp only [cq_L_132, al_L_132])
set_option maxRecDepth 100000 in
theorem ah_L_133 : rf_ALT cq_L_133 := rf_alt_inf [(135, [], [(0, 91, Int.ofNat 0), (0, 91, Int.ofNat 0), (0, 98, Int.ofNat 0), (0, 94, Int.ofNat 0), (0, 86, Int.ofNat 0)]), (135, [], [(0, 89, Int.ofNat 0), (0, 89, Int.ofNat 0), (0, 99, Int.ofNat 0), (0, 96, Int.ofNat 0), (0, 86, Int.ofNat 0)]), (151, [], [(0, 98, Int.ofNat 0), (0, 99, Int.ofNat 0), (0, 99, Int.ofNat 0), (0, 94, Int.ofNat 0)])] (by dsimp only [cq_L_133, al_L_133])
set_option maxRecDepth 100000 in
theorem ah_L_134 : rf_ALT cq_L_134 := rf_alt_inf [(135, [], [(0, 91, Int.ofNat 0), (0, 91, Int.ofNat 0), (0, 98, Int.ofNat 0), (0, 94, Int.ofNat 0), (0, 86, Int.ofNat 0)]), (135, [], [(0, 89, Int.ofNat 0), (0, 89, Int.ofNat 0), (0, 99, Int.ofNat 0), (0, 96, Int.ofNat 0), (0, 86, Int.ofNat 0)])] (by dsimp only [cq_L_134, al_L_134])
set_option maxRecDepth 100000 in
theorem ah_L_135 : rf_ALT cq_L_135 := rf_alt_inf [(135, [], [(0, 91, Int.ofNat 0), (0, 91, Int.ofNat 0), (0, 98, Int.ofNat 0), (0, 94, Int.ofNat 0), (0, 86, Int.ofNat 0)]), (135, [], [(0, 89, Int.ofNat 0), (0, 89, Int.ofNat 0), (0, 99, Int.ofNat 0), (0, 96, Int.ofNat 0), (0, 86, Int.ofNat 0)]), (151, [], [(0, 99, Int.ofNat 0), (0, 98, Int.ofNat 0), (0, 98, Int.ofNat 0), (0, 94, Int.ofNat 0)])] (by dsimp only [cq_L_135, al_L_135])
set_option maxRecDepth 100000 in
theorem ah_L_136 : rf_ALT cq_L_136 := rf_alt_inf [(135, [], [(0, 89, Int.ofNat 0), (0, 89, Int.ofNat 0), (0, 98, Int.ofNat 0), (0, 96, Int.ofNat 0), (0, 86, Int.ofNat 0)])] (by dsimp only [cq_L_136, al_L_136])
set_option maxRecDepth 100000 in
theorem ah_L_137 : rf_ALT cq_L_137 := rf_alt_inf [(135, [], [(0, 91, Int.ofNat 0), (0, 91, Int.ofNat 0), (0, 98, Int.ofNat 0), (0, 94, Int.ofNat 0), (0, 86, Int.ofNat 0)])] (by dsimp only [cq_L_137, al_L_137])
set_option maxRecDepth 100000 in
theorem ah_L_138 : rf_ALT cq_L_138 := rf_alt_inf [(135, [], [(0, 91, Int.ofNat 0), (0, 91, Int.ofNat 0), (0, 98, Int.ofNat 0), (0, 94, Int.ofNat 0), (0, 86, Int.ofNat 0)])] (by dsimp only [cq_L_138, al_L_138])
set_option maxRecDepth 100000 in
theorem ah_L_139 : rf_ALT cq_L_139 := rf_alt_inf [(135, [], [(0, 91, Int.ofNat 0), (0, 91, Int.ofNat 0), (0, 98, Int.ofNat 0), (0, 94, Int.ofNat 0), (0, 86, Int.ofNat 0)]), (135, [], [(0, 89, Int.ofNat 0), (0, 89, Int.ofNat 0), (0, 99, Int.ofNat 0), (0, 96, Int.ofNat 0), (0, 86, Int.ofNat 0)])] (by dsimp only [cq_L_139, al_L_139])
set_option maxRecDepth 100000 in
theorem ah_L_140 : rf_ALT cq_L_140 := rf_alt_inf [(135, [], [(0, 91, Int.ofNat 0), (0, 91, Int.ofNat 0), (0, 98, Int.ofNat 0), (0, 94, Int.ofNat 0), (0, 86, Int.ofNat 0)])] (by dsimp only [cq_L_140, al_L_140])
set_option maxRecDepth 100000 in
theorem ah_L_141 : rf_ALT cq_L_141 := rf_alt_inf [(135, [], [(0, 91, Int.ofNat 0), (0, 91, Int.ofNat 0), (0, 98, Int.ofNat 0), (0, 94, Int.ofNat 0), (0, 86, Int.ofNat 0)])] (by dsimp only [cq_L_141, al_L_141])
set_option maxRecDepth 100000 in
theorem ah_L_142 : rf_ALT cq_L_142 := rf_alt_inf [(135, [], [(0, 91, Int.ofNat 0), (0, 91, Int.ofNat 0), (0, 98, Int.ofNat 0), (0, 94, Int.ofNat 0), (0, 86, Int.ofNat 0)]), (135, [], [(0, 89, Int.ofNat 0), (0, 89, Int.ofNat 0), (0, 99, Int.ofNat 0), (0, 96, Int.ofNat 0), (0, 86, Int.ofNat 0)]), (151, [], [(0, 98, Int.ofNat 0), (0, 99, Int.ofNat 0), (0, 99, Int.ofNat 0), (0, 94, Int.ofNat 0)])] (by dsimp only [cq_L_142, al_L_142])
set_option maxRecDepth 100000 in
theorem ah_L_143 : rf_ALT cq_L_143 := rf_alt_inf [(135, [], [(0, 91, Int.ofNat 0), (0, 91, Int.ofNat 0), (0, 98, Int.ofNat 0), (0, 94, Int.ofNat 0), (0, 86, Int.ofNat 0)]), (135, [], [(0, 89, Int.ofNat 0), (0, 89, Int.ofNat 0), (0, 99, Int.ofNat 0), (0, 96, Int.ofNat 0), (0, 86, Int.ofNat 0)]), (151, [], [(0, 99, Int.ofNat 0), (0, 98, Int.ofNat 0), (0, 98, Int.ofNat 0), (0, 94, Int.ofNat 0)])] (by dsimp only [cq_L_143, al_L_143])
set_option maxRecDepth 100000 in
theorem ah_L_144 : rf_ALT cq_L_144 := rf_alt_inf [] (by dsimp only [cq_L_144, al_L_144])
set_option maxRecDepth 100000 in
theorem ah_L_145 : rf_ALT cq_L_145 := rf_alt_inf [] (by dsimp only [cq_L_145, al_L_145])
set_option maxRecDepth 100000 in
theorem ah_L_146 : rf_ALT cq_L_146 := rf_alt_inf [] (by dsimp only [cq_L_146, al_L_146])
set_option maxRecDepth 100000 in
theorem ah_L_147 : rf_ALT cq_L_147 := rf_alt_inf [(135, [], [(0, 89, Int.ofNat 0), (0, 89, Int.ofNat 0), (0, 98, Int.ofNat 0), (0, 96, Int.ofNat 0), (0, 86, Int.ofNat 0)])] (by dsimp only [cq_L_147, al_L_147])
set_option maxRecDepth 100000 in
theorem ah_L_148 : rf_ALT cq_L_148 := rf_alt_inf [(135, [], [(0, 91, Int.ofNat 0), (0, 91, Int.ofNat 0), (0, 98, Int.ofNat 0), (0, 94, Int.ofNat 0), (0, 86, Int.ofNat 0)])] (by dsimp only [cq_L_148, al_L_148])
set_option maxRecDepth 100000 in
theorem ah_L_149 : rf_ALT cq_L_149 := rf_alt_inf [(135, [], [(0, 91, Int.ofNat 0), (0, 91, Int.ofNat 0), (0, 98, Int.ofNat 0), (0, 94, Int.ofNat 0), (0, 86, Int.ofNat 0)])] (by dsimp only [cq_L_149, al_L_149])
set_option maxRecDepth 100000 in
theorem ah_L_150 : rf_ALT cq_L_150 := rf_alt_inf [(135, [], [(0, 91, Int.ofNat 0), (0, 91, Int.ofNat 0), (0, 98, Int.ofNat 0), (0, 94, Int.ofNat 0), (0, 86, Int.ofNat 0)]), (135, [], [(0, 89, Int.ofNat 0), (0, 89, Int.ofNat 0), (0, 99, Int.ofNat 0), (0, 96, Int.ofNat 0), (0, 86, Int.ofNat 0)])] (by dsimp only [cq_L_150, al_L_150])
set_option maxRecDepth 100000 in
theorem ah_L_151 : rf_ALT cq_L_151 := rf_alt_inf [(135, [], [(0, 91, Int.ofNat 0), (0, 91, Int.ofNat 0), (0, 98, Int.ofNat 0), (0, 94, Int.ofNat 0), (0, 86, Int.ofNat 0)])] (by dsimp only [cq_L_151, al_L_151])
set_option maxRecDepth 100000 in
theorem ah_L_152 : rf_ALT cq_L_152 := rf_alt_inf [(135, [], [(0, 91, Int.ofNat 0), (0, 91, Int.ofNat 0), (0, 98, Int.ofNat 0), (0, 94, Int.ofNat 0), (0, 86, Int.ofNat 0)])] (by dsimp only [cq_L_152, al_L_152])
set_option maxRecDepth 100000 in
theorem ah_L_153 : rf_ALT cq_L_153 := rf_alt_inf [(135, [], [(0, 91, Int.ofNat 0), (0, 91, Int.ofNat 0), (0, 98, Int.ofNat 0), (0, 94, Int.ofNat 0), (0, 86, Int.ofNat 0)]), (135, [], [(0, 89, Int.ofNat 0), (0, 89, Int.ofNat 0), (0, 99, Int.ofNat 0), (0, 96, Int.ofNat 0), (0, 86, Int.ofNat 0)]), (151, [], [(0, 98, Int.ofNat 0), (0, 99, Int.ofNat 0), (0, 99, Int.ofNat 0), (0, 94, Int.ofNat 0)])] (by dsimp only [cq_L_153, al_L_153])
set_option maxRecDepth 100000 in
theorem ah_L_154 : rf_ALT cq_L_154 := rf_alt_inf [(135, [], [(0, 91, Int.ofNat 0), (0, 91, Int.ofNat 0), (0, 98, Int.ofNat 0), (0, 94, Int.ofNat 0), (0, 86, Int.ofNat 0)]), (135, [], [(0, 89, Int.ofNat 0), (0, 89, Int.ofNat 0), (0, 99, Int.ofNat 0), (0, 96, Int.ofNat 0), (0, 86, Int.ofNat 0)]), (151, [], [(0, 99, Int.ofNat 0), (0, 98, Int.ofNat 0), (0, 98, Int.ofNat 0), (0, 94, Int.ofNat 0)])] (by dsimp only [cq_L_154, al_L_154])
set_option maxRecDepth 100000 in
theorem ah_L_155 : rf_ALT cq_L_155 := rf_alt_inf [(135, [], [(0, 89, Int.ofNat 0), (0, 89, Int.ofNat 0), (0, 94, Int.ofNat 0), (0, 0, Int.negSucc 0), (0, 86, Int.ofNat 0)])] (by dsimp only [cq_L_155, al_L_155])
set_option maxRecDepth 100000 in
theorem ah_L_156 : rf_ALT cq_L_156 := rf_alt_inf [(135, [], [(0, 89, Int.ofNat 0), (0, 89, Int.ofNat 0), (0, 95, Int.ofNat 0), (0, 94, Int.ofNat 0), (0, 86, Int.ofNat 0)])] (by dsimp only [cq_L_156, al_L_156])
set_option maxRecDepth 100000 in
theorem ah_L_157 : rf_ALT cq_L_157 := rf_alt_inf [(135, [], [(0, 89, Int.ofNat 0), (0, 89, Int.ofNat 0), (0, 95, Int.ofNat 0), (0, 0, Int.negSucc 0), (0, 86, Int.ofNat 0)])] (by dsimp only [cq_L_157, al_L_157])
set_option maxRecDepth 100000 in
theorem ah_L_158 : rf_ALT cq_L_158 := rf_alt_inf [(135, [], [(0, 89, Int.ofNat 0), (0, 89, Int.ofNat 0), (0, 96, Int.ofNat 0), (0, 94, Int.ofNat 0), (0, 86, Int.ofNat 0)])] (by dsimp only [cq_L_158, al_L_158])
set_option maxRecDepth 100000 in
theorem ah_L_159 : rf_ALT cq_L_159 := rf_alt_inf [(135, [], [(0, 89, Int.ofNat 0), (0, 89, Int.ofNat 0), (0, 96, Int.ofNat 0), (0, 0, Int.negSucc 0), (0, 86, Int.ofNat 0)])] (by dsimp only [cq_L_159, al_L_159])
set_option maxRecDepth 100000 in
theorem ah_L_160 : rf_ALT cq_L_160 := rf_alt_inf [(135, [], [(0, 91, Int.ofNat 0), (0, 91, Int.ofNat 0), (0, 94, Int.ofNat 0), (0, 0, Int.negSucc 0), (0, 86, Int.ofNat 0)]), (135, [], [(0, 89, Int.ofNat 0), (0, 89, Int.ofNat 0), (0, 95, Int.ofNat 0), (0, 0, Int.negSucc 0), (0, 86, Int.ofNat 0)])] (by dsimp only [cq_L_160, al_L_160])
set_option maxRecDepth 100000 in
theorem ah_L_161 : rf_ALT cq_L_161 := rf_alt_inf [(135, [], [(0, 91, Int.ofNat 0), (0, 91, Int.ofNat 0), (0, 94, Int.ofNat 0), (0, 0, Int.negSucc 0), (0, 86, Int.ofNat 0)]), (135, [], [(0, 89, Int.ofNat 0), (0, 89, Int.ofNat 0), (0, 95, Int.ofNat 0), (0, 0, Int.negSucc 0), (0, 86, Int.ofNat 0)])] (by dsimp only [cq_L_161, al_L_161])
set_option maxRecDepth 100000 in
theorem ah_L_162 : rf_ALT cq_L_162 := rf_alt_inf [(135, [], [(0, 91, Int.ofNat 0), (0, 91, Int.ofNat 0), (0, 95, Int.ofNat 0), (0, 0, Int.negSucc 0), (0, 86, Int.ofNat 0)]), (135, [], [(0, 89, Int.ofNat 0), (0, 89, Int.ofNat 0), (0, 96, Int.ofNat 0), (0, 94, Int.ofNat 0), (0, 86, Int.ofNat 0)])] (by dsimp only [cq_L_162, al_L_162])
set_option maxRecDepth 100000 in
theorem ah_L_163 : rf_ALT cq_L_163 := rf_alt_inf [(135, [], [(0, 91, Int.ofNat 0), (0, 91, Int.ofNat 0), (0, 95, Int.ofNat 0), (0, 94, Int.ofNat 0), (0, 86, Int.ofNat 0)])] (by dsimp only [cq_L_163, al_L_163])
set_option maxRecDepth 100000 in
theorem ah_L_164 : rf_ALT cq_L_164 := rf_alt_inf [(135, [], [(0, 91, Int.ofNat 0), (0, 91, Int.ofNat 0), (0, 95, Int.ofNat 0), (0, 0, Int.negSucc 0), (0, 86, Int.ofNat 0)]), (135, [], [(0, 89, Int.ofNat 0), (0, 89, Int.ofNat 0), (0, 96, Int.ofNat 0), (0, 94, Int.ofNat 0), (0, 86, Int.ofNat 0)])] (by dsimp only [cq_L_164, al_L_164])
set_option maxRecDepth 100000 in
theorem ah_L_165 : rf_ALT cq_L_165 := rf_alt_inf [(135, [], [(0, 91, Int.ofNat 0), (0, 91, Int.ofNat 0), (0, 95, Int.ofNat 0), (0, 94, Int.ofNat 0), (0, 86, Int.ofNat 0)])] (by dsimp only [cq_L_165, al_L_165])
set_option maxRecDepth 100000 in
theorem ah_L_166 : rf_ALT cq_L_166 := rf_alt_inf [(135, [], [(0, 91, Int.ofNat 0), (0, 91, Int.ofNat 0), (0, 96, Int.ofNat 0), (0, 0, Int.negSucc 0), (0, 86, Int.ofNat 0)]), (135, [], [(0, 89, Int.ofNat 0), (0, 89, Int.ofNat 0), (0, 97, Int.ofNat 0), (0, 94, Int.ofNat 0), (0, 86, Int.ofNat 0)])] (by dsimp only [cq_L_166, al_L_166])
set_option maxRecDepth 100000 in
theorem ah_L_167 : rf_ALT cq_L_167 := rf_alt_inf [(135, [], [(0, 91, Int.ofNat 0), (0, 91, Int.ofNat 0), (0, 96, Int.ofNat 0), (0, 94, Int.ofNat 0), (0, 86, Int.ofNat 0)])] (by dsimp only [cq_L_167, al_L_167])
set_option maxRecDepth 100000 in
theorem ah_L_168 : rf_ALT cq_L_168 := rf_alt_inf [(135, [], [(0, 91, Int.ofNat 0), (0, 91, Int.ofNat 0), (0, 96, Int.ofNat 0), (0, 0, Int.negSucc 0), (0, 86, Int.ofNat 0)]), (135, [], [(0, 89, Int.ofNat 0), (0, 89, Int.ofNat 0), (0, 97, Int.ofNat 0), (0, 94, Int.ofNat 0), (0, 86, Int.ofNat 0)])] (by dsimp only [cq_L_168, al_L_168])
set_option maxRecDepth 100000 in
theorem ah_L_169 : rf_ALT cq_L_169 := rf_alt_inf [(135, [], [(0, 91, Int.ofNat 0), (0, 91, Int.ofNat 0), (0, 96, Int.ofNat 0), (0, 94, Int.ofNat 0), (0, 86, Int.ofNat 0)])] (by dsimp only [cq_L_169, al_L_169])
set_option maxRecDepth 100000 in
theorem ah_L_170 : rf_ALT cq_L_170 := rf_alt_inf [(135, [], [(0, 89, Int.ofNat 0), (0, 89, Int.ofNat 0), (0, 96, Int.ofNat 0), (0, 95, Int.ofNat 0), (0, 86, Int.ofNat 0)])] (by dsimp only [cq_L_170, al_L_170])
set_option maxRecDepth 100000 in
theorem ah_L_171 : rf_ALT cq_L_171 := rf_alt_inf [(135, [], [(0, 89, Int.ofNat 0), (0, 89, Int.ofNat 0), (0, 97, Int.ofNat 0), (0, 96, Int.ofNat 0), (0, 86, Int.ofNat 0)])] (by dsimp only [cq_L_171, al_L_171])
set_option maxRecDepth 100000 in
theorem ah_L_172 : rf_ALT cq_L_172 := rf_alt_inf [(135, [], [(0, 89, Int.ofNat 0), (0, 89, Int.ofNat 0), (0, 97, Int.ofNat 0), (0, 95, Int.ofNat 0), (0, 86, Int.ofNat 0)])] (by dsimp only [cq_L_172, al_L_172])
set_option maxRecDepth 100000 in
theorem ah_L_173 : rf_ALT cq_L_173 := rf_alt_inf [(135, [], [(0, 91, Int.ofNat 0), (0, 91, Int.ofNat 0), (0, 96, Int.ofNat 0), (0, 94, Int.ofNat 0), (0, 86, Int.ofNat 0)])] (by dsimp only [cq_L_173, al_L_173])
set_option maxRecDepth 100000 in
theorem ah_L_174 : rf_ALT cq_L_174 := rf_alt_inf [(135, [], [(0, 91, Int.ofNat 0), (0, 91, Int.ofNat 0), (0, 96, Int.ofNat 0), (0, 94, Int.ofNat 0), (0, 86, Int.ofNat 0)])] (by dsimp only [cq_L_174, al_L_174])
set_option maxRecDepth 100000 in
theorem ah_L_175 : rf_ALT cq_L_175 := rf_alt_inf [(135, [], [(0, 91, Int.ofNat 0), (0, 91, Int.ofNat 0), (0, 97, Int.ofNat 0), (0, 94, Int.ofNat 0), (0, 86, Int.ofNat 0)])] (by dsimp only [cq_L_175, al_L_175])
set_option maxRecDepth 100000 in
theorem ah_L_176 : rf_ALT cq_L_176 := rf_alt_inf [(135, [], [(0, 91, Int.ofNat 0), (0, 91, Int.ofNat 0), (0, 97, Int.ofNat 0), (0, 94, Int.ofNat 0), (0, 86, Int.ofNat 0)])] (by dsimp only [cq_L_176, al_L_176])
set_option maxRecDepth 100000 in
theorem ah_L_177 : rf_ALT cq_L_177 := rf_alt_inf [(135, [], [(0, 91, Int.ofNat 0), (0, 91, Int.ofNat 0), (0, 97, Int.ofNat 0), (0, 94, Int.ofNat 0), (0, 86, Int.ofNat 0)])] (by dsimp only [cq_L_177, al_L_177])
set_option maxRecDepth 100000 in
theorem ah_L_178 : rf_ALT cq_L_178 := rf_alt_inf [(135, [], [(0, 91, Int.ofNat 0), (0, 91, Int.ofNat 0), (0, 97, Int.ofNat 0), (0, 94, Int.ofNat 0), (0, 86, Int.ofNat 0)])] (by dsimp only [cq_L_178, al_L_178])
set_option maxRecDepth 100000 in
theorem ah_L_179 : rf_ALT cq_L_179 := rf_alt_inf [(135, [], [(0, 91, Int.ofNat 0), (0, 91, Int.ofNat 0), (0, 94, Int.ofNat 0), (0, 0, Int.negSucc 0), (0, 86, Int.ofNat 0)])] (by dsimp only [cq_L_179, al_L_179])
set_option maxRecDepth 100000 in
theorem ah_L_180 : rf_ALT cq_L_180 := rf_alt_inf [(135, [], [(0, 91, Int.ofNat 0), (0, 91, Int.ofNat 0), (0, 95, Int.ofNat 0), (0, 0, Int.negSucc 0), (0, 86, Int.ofNat 0)])] (by dsimp only [cq_L_180, al_L_180])
set_option maxRecDepth 100000 in
theorem ah_L_181 : rf_ALT cq_L_181 := rf_alt_inf [(135, [], [(0, 91, Int.ofNat 0), (0, 91, Int.ofNat 0), (0, 95, Int.ofNat 0), (0, 94, Int.ofNat 0), (0, 86, Int.ofNat 0)])] (by dsimp only [cq_L_181, al_L_181])
set_option maxRecDepth 100000 in
theorem ah_L_182 : rf_ALT cq_L_182 := rf_alt_inf [(135, [], [(0, 91, Int.ofNat 0), (0, 91, Int.ofNat 0), (0, 96, Int.ofNat 0), (0, 0, Int.negSucc 0), (0, 86, Int.ofNat 0)])] (by dsimp only [cq_L_182, al_L_182])
set_option maxRecDepth 100000 in
theorem ah_L_183 : rf_ALT cq_L_183 := rf_alt_inf [(135, [], [(0, 91, Int.ofNat 0), (0, 91, Int.ofNat 0), (0, 96, Int.ofNat 0), (0, 94, Int.ofNat 0), (0, 86, Int.ofNat 0)]), (135, [], [(0, 89, Int.ofNat 0), (0, 89, Int.ofNat 0), (0, 97, Int.ofNat 0), (0, 0, Int.negSucc 0), (0, 86, Int.ofNat 0)])] (by dsimp only [cq_L_183, al_L_183])
set_option maxRecDepth 100000 in
theorem ah_L_184 : rf_ALT cq_L_184 := rf_alt_inf [(135, [], [(0, 91, Int.ofNat 0), (0, 91, Int.ofNat 0), (0, 94, Int.ofNat 0), (0, 0, Int.negSucc 0), (0, 86, Int.ofNat 0)])] (by dsimp only [cq_L_184, al_L_184])
set_option maxRecDepth 100000 in
theorem ah_L_185 : rf_ALT cq_L_185 := rf_alt_inf [(135, [], [(0, 91, Int.ofNat 0), (0, 91, Int.ofNat 0), (0, 94, Int.ofNat 0), (0, 0, Int.negSucc 0), (0, 86, Int.ofNat 0)])] (by dsimp only [cq_L_185, al_L_185])
set_option maxRecDepth 100000 in
theorem ah_L_186 : rf_ALT cq_L_186 := rf_alt_inf [(135, [], [(0, 91, Int.ofNat 0), (0, 91, Int.ofNat 0), (0, 95, Int.ofNat 0), (0, 0, Int.negSucc 0), (0, 86, Int.ofNat 0)])] (by dsimp only [cq_L_186, al_L_186])
set_option maxRecDepth 100000 in
theorem ah_L_187 : rf_ALT cq_L_187 := rf_alt_inf [(135, [], [(0, 91, Int.ofNat 0), (0, 91, Int.ofNat 0), (0, 95, Int.ofNat 0), (0, 94, Int.ofNat 0), (0, 86, Int.ofNat 0)]), (135, [], [(0, 89, Int.ofNat 0), (0, 89, Int.ofNat 0), (0, 96, Int.ofNat 0), (0, 0, Int.negSucc 0), (0, 86, Int.ofNat 0)])] (by dsimp only [cq_L_187, al_L_187])
set_option maxRecDepth 100000 in
theorem ah_L_188 : rf_ALT cq_L_188 := rf_alt_inf [(135, [], [(0, 91, Int.ofNat 0), (0, 91, Int.ofNat 0), (0, 95, Int.ofNat 0), (0, 0, Int.negSucc 0), (0, 86, Int.ofNat 0)])] (by dsimp only [cq_L_188, al_L_188])
set_option maxRecDepth 100000 in
theorem ah_L_189 : rf_ALT cq_L_189 := rf_alt_inf [(135, [], [(0, 91, Int.ofNat 0), (0, 91, Int.ofNat 0), (0, 95, Int.ofNat 0), (0, 94, Int.ofNat 0), (0, 86, Int.ofNat 0)]), (135, [], [(0, 89, Int.ofNat 0), (0, 89, Int.ofNat 0), (0, 96, Int.ofNat 0), (0, 0, Int.negSucc 0), (0, 86, Int.ofNat 0)])] (by dsimp only [cq_L_189, al_L_189])
set_option maxRecDepth 100000 in
theorem ah_L_190 : rf_ALT cq_L_190 := rf_alt_inf [(135, [], [(0, 91, Int.ofNat 0), (0, 91, Int.ofNat 0), (0, 96, Int.ofNat 0), (0, 0, Int.negSucc 0), (0, 86, Int.ofNat 0)])] (by dsimp only [cq_L_190, al_L_190])
set_option maxRecDepth 100000 in
theorem ah_L_191 : rf_ALT cq_L_191 := rf_alt_inf [(135, [], [(0, 91, Int.ofNat 0), (0, 91, Int.ofNat 0), (0, 96, Int.ofNat 0), (0, 94, Int.ofNat 0), (0, 86, Int.ofNat 0)])] (by dsimp only [cq_L_191, al_L_191])
set_option maxRecDepth 100000 in
theorem ah_L_192 : rf_ALT cq_L_192 := rf_alt_inf [(135, [], [(0, 91, Int.ofNat 0), (0, 91, Int.ofNat 0), (0, 96, Int.ofNat 0), (0, 0, Int.negSucc 0), (0, 86, Int.ofNat 0)])] (by dsimp only [cq_L_192, al_L_192])
set_option maxRecDepth 100000 in
theorem ah_L_193 : rf_ALT cq_L_193 := rf_alt_inf [(135, [], [(0, 91, Int.ofNat 0), (0, 91, Int.ofNat 0), (0, 96, Int.ofNat 0), (0, 94, Int.ofNat 0), (0, 86, Int.ofNat 0)])] (by dsimp only [cq_L_193, al_L_193])
set_option maxRecDepth 100000 in
theorem ah_L_194 : rf_ALT cq_L_194 := rf_alt_inf [(135, [], [(0, 91, Int.ofNat 0), (0, 91, Int.ofNat 0), (0, 96, Int.ofNat 0), (0, 94, Int.ofNat 0), (0, 86, Int.ofNat 0)])] (by dsimp only [cq_L_194, al_L_194])
set_option maxRecDepth 100000 in
theorem ah_L_195 : rf_ALT cq_L_195 := rf_alt_inf [(135, [], [(0, 91, Int.ofNat 0), (0, 91, Int.ofNat 0), (0, 97, Int.ofNat 0), (0, 94, Int.ofNat 0), (0, 86, Int.ofNat 0)]), (135, [], [(0, 89, Int.ofNat 0), (0, 89, Int.ofNat 0), (0, 98, Int.ofNat 0), (0, 96, Int.ofNat 0), (0, 86, Int.ofNat 0)])] (by dsimp only [cq_L_195, al_L_195])
set_option maxRecDepth 100000 in
theorem ah_L_196 : rf_ALT cq_L_196 := rf_alt_inf [(135, [], [(0, 91, Int.ofNat 0), (0, 91, Int.ofNat 0), (0, 97, Int.ofNat 0), (0, 94, Int.ofNat 0), (0, 86, Int.ofNat 0)])] (by dsimp only [cq_L_196, al_L_196])
set_option maxRecDepth 100000 in
theorem ah_L_197 : rf_ALT cq_L_197 := rf_alt_inf [(135, [], [(0, 91, Int.ofNat 0), (0, 91, Int.ofNat 0), (0, 96, Int.ofNat 0), (0, 94, Int.ofNat 0), (0, 86, Int.ofNat 0)]), (135, [], [(0, 89, Int.ofNat 0), (0, 89, Int.ofNat 0), (0, 97, Int.ofNat 0), (0, 95, Int.ofNat 0), (0, 86, Int.ofNat 0)])] (by dsimp only [cq_L_197, al_L_197])
set_option maxRecDepth 100000 in
theorem ah_L_198 : rf_ALT cq_L_198 := rf_alt_inf [(135, [], [(0, 91, Int.ofNat 0), (0, 91, Int.ofNat 0), (0, 96, Int.ofNat 0), (0, 94, Int.ofNat 0), (0, 86, Int.ofNat 0)]), (135, [], [(0, 89, Int.ofNat 0), (0, 89, Int.ofNat 0), (0, 97, Int.ofNat 0), (0, 95, Int.ofNat 0), (0, 86, Int.ofNat 0)])] (by dsimp only [cq_L_198, al_L_198])
set_option maxRecDepth 100000 in
theorem ah_L_199 : rf_ALT cq_L_199 := rf_alt_inf [(135, [], [(0, 91, Int.ofNat 0), (0, 91, Int.ofNat 0), (0, 97, Int.ofNat 0), (0, 94, Int.ofNat 0), (0, 86, Int.ofNat 0)])] (by dsimp only [cq_L_199, al_L_199])
set_option maxRecDepth 100000 in
theorem ah_L_200 : rf_ALT cq_L_200 := rf_alt_inf [(135, [], [(0, 91, Int.ofNat 0), (0, 91, Int.ofNat 0), (0, 97, Int.ofNat 0), (0, 94, Int.ofNat 0), (0, 86, Int.ofNat 0)]), (135, [], [(0, 89, Int.ofNat 0), (0, 89, Int.ofNat 0), (0, 98, Int.ofNat 0), (0, 95, Int.ofNat 0), (0, 86, Int.ofNat 0)])] (by dsimp only [cq_L_200, al_L_200])
set_option maxRecDepth 100000 in
theorem ah_L_201 : rf_ALT cq_L_201 := rf_alt_inf [(135, [], [(0, 91, Int.ofNat 0), (0, 91, Int.ofNat 0), (0, 97, Int.ofNat 0), (0, 94, Int.ofNat 0), (0, 86, Int.ofNat 0)])] (by dsimp only [cq_L_201, al_L_201])
set_option maxRecDepth 100000 in
theorem ah_L_202 : rf_ALT cq_L_202 := rf_alt_inf [(135, [], [(0, 91, Int.ofNat 0), (0, 91, Int.ofNat 0), (0, 97, Int.ofNat 0), (0, 94, Int.ofNat 0), (0, 86, Int.ofNat 0)]), (135, [], [(0, 89, Int.ofNat 0), (0, 89, Int.ofNat 0), (0, 98, Int.ofNat 0), (0, 95, Int.ofNat 0), (0, 86, Int.ofNat 0)])] (by dsimp only [cq_L_202, al_L_202])
set_option maxRecDepth 100000 in
theorem ah_L_203 : rf_ALT cq_L_203 := rf_alt_inf [(135, [], [(0, 91, Int.ofNat 0), (0, 91, Int.ofNat 0), (0, 94, Int.ofNat 0), (0, 0, Int.negSucc 0), (0, 86, Int.ofNat 0)])] (by dsimp only [cq_L_203, al_L_203])
set_option maxRecDepth 100000 in
theorem ah_L_204 : rf_ALT cq_L_204 := rf_alt_inf [(135, [], [(0, 89, Int.ofNat 0), (0, 89, Int.ofNat 0), (0, 98, Int.ofNat 0), (0, 96, Int.ofNat 0), (0, 86, Int.ofNat 0)])] (by dsimp only [cq_L_204, al_L_204])
set_option maxRecDepth 100000 in
theorem ah_L_205 : rf_ALT cq_L_205 := rf_alt_inf [(135, [], [(0, 91, Int.ofNat 0), (0, 91, Int.ofNat 0), (0, 98, Int.ofNat 0), (0, 94, Int.ofNat 0), (0, 86, Int.ofNat 0)])] (by dsimp only [cq_L_205, al_L_205])
set_option maxRecDepth 100000 in
theorem ah_L_206 : rf_ALT cq_L_206 := rf_alt_inf [(135, [], [(0, 91, Int.ofNat 0), (0, 91, Int.ofNat 0), (0, 98, Int.ofNat 0), (0, 94, Int.ofNat 0), (0, 86, Int.ofNat 0)])] (by dsimp only [cq_L_206, al_L_206])
set_option maxRecDepth 100000 in
theorem ah_L_207 : rf_ALT cq_L_207 := rf_alt_inf [(135, [], [(0, 91, Int.ofNat 0), (0, 91, Int.ofNat 0), (0, 98, Int.ofNat 0), (0, 94, Int.ofNat 0), (0, 86, Int.ofNat 0)]), (135, [], [(0, 89, Int.ofNat 0), (0, 89, Int.ofNat 0), (0, 99, Int.ofNat 0), (0, 96, Int.ofNat 0), (0, 86, Int.ofNat 0)])] (by dsimp only [cq_L_207, al_L_207])
set_option maxRecDepth 100000 in
theorem ah_L_208 : rf_ALT cq_L_208 := rf_alt_inf [(135, [], [(0, 91, Int.ofNat 0), (0, 91, Int.ofNat 0), (0, 98, Int.ofNat 0), (0, 94, Int.ofNat 0), (0, 86, Int.ofNat 0)])] (by dsimp only [cq_L_208, al_L_208])
set_option maxRecDepth 100000 in
theorem ah_L_209 : rf_ALT cq_L_209 := rf_alt_inf [(135, [], [(0, 91, Int.ofNat 0), (0, 91, Int.ofNat 0), (0, 98, Int.ofNat 0), (0, 94, Int.ofNat 0), (0, 86, Int.ofNat 0)])] (by dsimp only [cq_L_209, al_L_209])
set_option maxRecDepth 100000 in
theorem ah_L_210 : rf_ALT cq_L_210 := rf_alt_inf [(135, [], [(0, 91, Int.ofNat 0), (0, 91, Int.ofNat 0), (0, 98, Int.ofNat 0), (0, 94, Int.ofNat 0), (0, 86, Int.ofNat 0)]), (135, [], [(0, 89, Int.ofNat 0), (0, 89, Int.ofNat 0), (0, 99, Int.ofNat 0), (0, 96, Int.ofNat 0), (0, 86, Int.ofNat 0)])] (by dsimp only [cq_L_210, al_L_210])
set_option maxRecDepth 100000 in
theorem ah_L_211 : rf_ALT cq_L_211 := rf_alt_inf [(135, [], [(0, 91, Int.ofNat 0), (0, 91, Int.ofNat 0), (0, 98, Int.ofNat 0), (0, 94, Int.ofNat 0), (0, 86, Int.ofNat 0)]), (135, [], [(0, 89, Int.ofNat 0), (0, 89, Int.ofNat 0), (0, 99, Int.ofNat 0), (0, 96, Int.ofNat 0), (0, 86, Int.ofNat 0)]), (151, [], [(0, 98, Int.ofNat 0), (0, 96, Int.ofNat 0), (0, 98, Int.ofNat 0), (0, 98, Int.ofNat 0)])] (by dsimp only [cq_L_211, al_L_211])
set_option maxRecDepth 100000 in
theorem ah_L_212 : rf_ALT cq_L_212 := rf_alt_inf [(135, [], [(0, 91, Int.ofNat 0), (0, 91, Int.ofNat 0), (0, 94, Int.ofNat 0), (0, 0, Int.negSucc 0), (0, 86, Int.ofNat 0)])] (by dsimp only [cq_L_212, al_L_212])
set_option maxRecDepth 100000 in
theorem ah_L_213 : rf_ALT cq_L_213 := rf_alt_inf [(135, [], [(0, 91, Int.ofNat 0), (0, 91, Int.ofNat 0), (0, 95, Int.ofNat 0), (0, 0, Int.negSucc 0), (0, 86, Int.ofNat 0)])] (by dsimp only [cq_L_213, al_L_213])
set_option maxRecDepth 100000 in
theorem ah_L_214 : rf_ALT cq_L_214 := rf_alt_inf [(135, [], [(0, 91, Int.ofNat 0), (0, 91, Int.ofNat 0), (0, 95, Int.ofNat 0), (0, 94, Int.ofNat 0), (0, 86, Int.ofNat 0)])] (by dsimp only [cq_L_214, al_L_214])
set_option maxRecDepth 100000 in
theorem ah_L_215 : rf_ALT cq_L_215 := rf_alt_inf [(135, [], [(0, 89, Int.ofNat 0), (0, 89, Int.ofNat 0), (0, 98, Int.ofNat 0), (0, 96, Int.ofNat 0), (0, 86, Int.ofNat 0)])] (by dsimp only [cq_L_215, al_L_215])
set_option maxRecDepth 100000 in
theorem ah_L_216 : rf_ALT cq_L_216 := rf_alt_inf [(135, [], [(0, 91, Int.ofNat 0), (0, 91, Int.ofNat 0), (0, 98, Int.ofNat 0), (0, 94, Int.ofNat 0), (0, 86, Int.ofNat 0)])] (by dsimp only [cq_L_216, al_L_216])
set_option maxRecDepth 100000 in
theorem ah_L_217 : rf_ALT cq_L_217 := rf_alt_inf [(135, [], [(0, 91, Int.ofNat 0), (0, 91, Int.ofNat 0), (0, 98, Int.ofNat 0), (0, 94, Int.ofNat 0), (0, 86, Int.ofNat 0)])] (by dsimp only [cq_L_217, al_L_217])
set_option maxRecDepth 100000 in
theorem ah_L_218 : rf_ALT cq_L_218 := rf_alt_inf [(135, [], [(0, 91, Int.ofNat 0), (0, 91, Int.ofNat 0), (0, 98, Int.ofNat 0), (0, 94, Int.ofNat 0), (0, 86, Int.ofNat 0)]), (135, [], [(0, 89, Int.ofNat 0), (0, 89, Int.ofNat 0), (0, 99, Int.ofNat 0), (0, 96, Int.ofNat 0), (0, 86, Int.ofNat 0)])] (by dsimp only [cq_L_218, al_L_218])
set_option maxRecDepth 100000 in
theorem ah_L_219 : rf_ALT cq_L_219 := rf_alt_inf [(135, [], [(0, 91, Int.ofNat 0), (0, 91, Int.ofNat 0), (0, 98, Int.ofNat 0), (0, 94, Int.ofNat 0), (0, 86, Int.ofNat 0)])] (by dsimp only [cq_L_219, al_L_219])
set_option maxRecDepth 100000 in
theorem ah_L_220 : rf_ALT cq_L_220 := rf_alt_inf [(135, [], [(0, 91, Int.ofNat 0), (0, 91, Int.ofNat 0), (0, 98, Int.ofNat 0), (0, 94, Int.ofNat 0), (0, 86, Int.ofNat 0)])] (by dsimp only [cq_L_220, al_L_220])
set_option maxRecDepth 100000 in
theorem ah_L_221 : rf_ALT cq_L_221 := rf_alt_inf [(135, [], [(0, 91, Int.ofNat 0), (0, 91, Int.ofNat 0), (0, 98, Int.ofNat 0), (0, 94, Int.ofNat 0), (0, 86, Int.ofNat 0)]), (135, [], [(0, 89, Int.ofNat 0), (0, 89, Int.ofNat 0), (0, 99, Int.ofNat 0), (0, 96, Int.ofNat 0), (0, 86, Int.ofNat 0)]), (151, [], [(0, 98, Int.ofNat 0), (0, 99, Int.ofNat 0), (0, 99, Int.ofNat 0), (0, 94, Int.ofNat 0)])] (by dsimp only [cq_L_221, al_L_221])
set_option maxRecDepth 100000 in
theorem ah_L_222 : rf_ALT cq_L_222 := rf_alt_inf [(135, [], [(0, 91, Int.ofNat 0), (0, 91, Int.ofNat 0), (0, 98, Int.ofNat 0), (0, 94, Int.ofNat 0), (0, 86, Int.ofNat 0)]), (135, [], [(0, 89, Int.ofNat 0), (0, 89, Int.ofNat 0), (0, 99, Int.ofNat 0), (0, 96, Int.ofNat 0), (0, 86, Int.ofNat 0)])] (by dsimp only [cq_L_222, al_L_222])
set_option maxRecDepth 100000 in
theorem ah_L_223 : rf_ALT cq_L_223 := rf_alt_inf [(135, [], [(0, 91, Int.ofNat 0), (0, 91, Int.ofNat 0), (0, 95, Int.ofNat 0), (0, 0, Int.negSucc 0), (0, 86, Int.ofNat 0)])] (by dsimp only [cq_L_223, al_L_223])
set_option maxRecDepth 100000 in
theorem ah_L_224 : rf_ALT cq_L_224 := rf_alt_inf [(135, [], [(0, 91, Int.ofNat 0), (0, 91, Int.ofNat 0), (0, 95, Int.ofNat 0), (0, 94, Int.ofNat 0), (0, 86, Int.ofNat 0)])] (by dsimp only [cq_L_224, al_L_224])
set_option maxRecDepth 100000 in
theorem ah_L_225 : rf_ALT cq_L_225 := rf_alt_inf [(135, [], [(0, 91, Int.ofNat 0), (0, 91, Int.ofNat 0), (0, 96, Int.ofNat 0), (0, 0, Int.negSucc 0), (0, 86, Int.ofNat 0)])] (by dsimp only [cq_L_225, al_L_225])
set_option maxRecDepth 100000 in
theorem ah_L_226 : rf_ALT cq_L_226 := rf_alt_inf [(135, [], [(0, 91, Int.ofNat 0), (0, 91, Int.ofNat 0), (0, 96, Int.ofNat 0), (0, 94, Int.ofNat 0), (0, 86, Int.ofNat 0)]), (135, [], [(0, 89, Int.ofNat 0), (0, 89, Int.ofNat 0), (0, 97, Int.ofNat 0), (0, 0, Int.negSucc 0), (0, 86, Int.ofNat 0)])] (by dsimp only [cq_L_226, al_L_226])
set_option maxRecDepth 100000 in
theorem ah_L_227 : rf_ALT cq_L_227 := rf_alt_inf [(135, [], [(0, 91, Int.ofNat 0), (0, 91, Int.ofNat 0), (0, 96, Int.ofNat 0), (0, 94, Int.ofNat 0), (0, 86, Int.ofNat 0)])] (by dsimp only [cq_L_227, al_L_227])
set_option maxRecDepth 100000 in
theorem ah_L_228 : rf_ALT cq_L_228 := rf_alt_inf [(135, [], [(0, 91, Int.ofNat 0), (0, 91, Int.ofNat 0), (0, 96, Int.ofNat 0), (0, 0, Int.negSucc 0), (0, 86, Int.ofNat 0)])] (by dsimp only [cq_L_228, al_L_228])
set_option maxRecDepth 100000 in
theorem ah_L_229 : rf_ALT cq_L_229 := rf_alt_inf [(135, [], [(0, 91, Int.ofNat 0), (0, 91, Int.ofNat 0), (0, 96, Int.ofNat 0), (0, 94, Int.ofNat 0), (0, 86, Int.ofNat 0)]), (135, [], [(0, 89, Int.ofNat 0), (0, 89, Int.ofNat 0), (0, 97, Int.ofNat 0), (0, 0, Int.negSucc 0), (0, 86, Int.ofNat 0)])] (by dsimp only [cq_L_229, al_L_229])
set_option maxRecDepth 100000 in
theorem ah_L_230 : rf_ALT cq_L_230 := rf_alt_inf [(135, [], [(0, 91, Int.ofNat 0), (0, 91, Int.ofNat 0), (0, 96, Int.ofNat 0), (0, 94, Int.ofNat 0), (0, 86, Int.ofNat 0)])] (by dsimp only [cq_L_230, al_L_230])
set_option maxRecDepth 100000 in
theorem ah_L_231 : rf_ALT cq_L_231 := rf_alt_inf [(135, [], [(0, 91, Int.ofNat 0), (0, 91, Int.ofNat 0), (0, 97, Int.ofNat 0), (0, 94, Int.ofNat 0), (0, 86, Int.ofNat 0)]), (135, [], [(0, 89, Int.ofNat 0), (0, 89, Int.ofNat 0), (0, 98, Int.ofNat 0), (0, 96, Int.ofNat 0), (0, 86, Int.ofNat 0)])] (by dsimp only [cq_L_231, al_L_231])
set_option maxRecDepth 100000 in
theorem ah_L_232 : rf_ALT cq_L_232 := rf_alt_inf [(135, [], [(0, 91, Int.ofNat 0), (0, 91, Int.ofNat 0), (0, 97, Int.ofNat 0), (0, 94, Int.ofNat 0), (0, 86, Int.ofNat 0)])] (by dsimp only [cq_L_232, al_L_232])
set_option maxRecDepth 100000 in
theorem ah_L_233 : rf_ALT cq_L_233 := rf_alt_inf [(135, [], [(0, 91, Int.ofNat 0), (0, 91, Int.ofNat 0), (0, 97, Int.ofNat 0), (0, 94, Int.ofNat 0), (0, 86, Int.ofNat 0)]), (135, [], [(0, 89, Int.ofNat 0), (0, 89, Int.ofNat 0), (0, 98, Int.ofNat 0), (0, 96, Int.ofNat 0), (0, 86, Int.ofNat 0)])] (by dsimp only [cq_L_233, al_L_233])
set_option maxRecDepth 100000 in
theorem ah_L_234 : rf_ALT cq_L_234 := rf_alt_inf [(135, [], [(0, 91, Int.ofNat 0), (0, 91, Int.ofNat 0), (0, 97, Int.ofNat 0), (0, 94, Int.ofNat 0), (0, 86, Int.ofNat 0)])] (by dsimp only [cq_L_234, al_L_234])
set_option maxRecDepth 100000 in
theorem ah_L_235 : rf_ALT cq_L_235 := rf_alt_inf [] (by dsimp only [cq_L_235, al_L_235])
set_option maxRecDepth 100000 in
theorem ah_L_236 : rf_ALT cq_L_236 := rf_alt_inf [(135, [], [(0, 91, Int.ofNat 0), (0, 91, Int.ofNat 0), (0, 94, Int.ofNat 0), (0, 0, Int.negSucc 0), (0, 86, Int.ofNat 0)])] (by dsimp only [cq_L_236, al_L_236])
set_option maxRecDepth 100000 in
theorem ah_L_237 : rf_ALT cq_L_237 := rf_alt_inf [(135, [], [(0, 91, Int.ofNat 0), (0, 91, Int.ofNat 0), (0, 98, Int.ofNat 0), (0, 94, Int.ofNat 0), (0, 86, Int.ofNat 0)]), (135, [], [(0, 89, Int.ofNat 0), (0, 89, Int.ofNat 0), (0, 99, Int.ofNat 0), (0, 96, Int.ofNat 0), (0, 86, Int.ofNat 0)]), (151, [], [(0, 98, Int.ofNat 0), (0, 96, Int.ofNat 0), (0, 98, Int.ofNat 0), (0, 98, Int.ofNat 0)])] (by dsimp only [cq_L_237, al_L_237])
set_option maxRecDepth 100000 in
theorem ah_L_238 : rf_ALT cq_L_238 := rf_alt_inf [(135, [], [(0, 91, Int.ofNat 0), (0, 91, Int.ofNat 0), (0, 98, Int.ofNat 0), (0, 94, Int.ofNat 0), (0, 86, Int.ofNat 0)]), (135, [], [(0, 89, Int.ofNat 0), (0, 89, Int.ofNat 0), (0, 99, Int.ofNat 0), (0, 96, Int.ofNat 0), (0, 86, Int.ofNat 0)])] (by dsimp only [cq_L_238, al_L_238])
set_option maxRecDepth 100000 in
theorem ah_L_239 : rf_ALT cq_L_239 := rf_alt_inf [(135, [], [(0, 91, Int.ofNat 0), (0, 91, Int.ofNat 0), (0, 95, Int.ofNat 0), (0, 0, Int.negSucc 0), (0, 86, Int.ofNat 0)])] (by dsimp only [cq_L_239, al_L_239])
set_option maxRecDepth 100000 in
theorem ah_L_240 : rf_ALT cq_L_240 := rf_alt_inf [(135, [], [(0, 91, Int.ofNat 0), (0, 91, Int.ofNat 0), (0, 95, Int.ofNat 0), (0, 94, Int.ofNat 0), (0, 86, Int.ofNat 0)])] (by dsimp only [cq_L_240, al_L_240])
set_option maxRecDepth 100000 in
theorem ah_L_241 : rf_ALT cq_L_241 := rf_alt_inf [(135, [], [(0, 91, Int.ofNat 0), (0, 91, Int.ofNat 0), (0, 98, Int.ofNat 0), (0, 94, Int.ofNat 0), (0, 86, Int.ofNat 0)]), (135, [], [(0, 89, Int.ofNat 0), (0, 89, Int.ofNat 0), (0, 99, Int.ofNat 0), (0, 96, Int.ofNat 0), (0, 86, Int.ofNat 0)]), (151, [], [(0, 99, Int.ofNat 0), (0, 94, Int.ofNat 0), (0, 98, Int.ofNat 0), (0, 98, Int.ofNat 0)])] (by dsimp only [cq_L_241, al_L_241])
set_option maxRecDepth 100000 in
theorem ah_L_242 : rf_ALT cq_L_242 := rf_alt_inf [(135, [], [(0, 91, Int.ofNat 0), (0, 91, Int.ofNat 0), (0, 96, Int.ofNat 0), (0, 0, Int.negSucc 0), (0, 86, Int.ofNat 0)])] (by dsimp only [cq_L_242, al_L_242])
set_option maxRecDepth 100000 in
theorem ah_L_243 : rf_ALT cq_L_243 := rf_alt_inf [(135, [], [(0, 91, Int.ofNat 0), (0, 91, Int.ofNat 0), (0, 96, Int.ofNat 0), (0, 94, Int.ofNat 0), (0, 86, Int.ofNat 0)]), (135, [], [(0, 89, Int.ofNat 0), (0, 89, Int.ofNat 0), (0, 97, Int.ofNat 0), (0, 0, Int.negSucc 0), (0, 86, Int.ofNat 0)])] (by dsimp only [cq_L_243, al_L_243])
set_option maxRecDepth 100000 in
theorem ah_L_244 : rf_ALT cq_L_244 := rf_alt_inf [(135, [], [(0, 91, Int.ofNat 0), (0, 91, Int.ofNat 0), (0, 96, Int.ofNat 0), (0, 94, Int.ofNat 0), (0, 86, Int.ofNat 0)])] (by dsimp only [cq_L_244, al_L_244])
set_option maxRecDepth 100000 in
theorem ah_L_245 : rf_ALT cq_L_245 := rf_alt_inf [(135, [], [(0, 91, Int.ofNat 0), (0, 91, Int.ofNat 0), (0, 97, Int.ofNat 0), (0, 94, Int.ofNat 0), (0, 86, Int.ofNat 0)]), (135, [], [(0, 89, Int.ofNat 0), (0, 89, Int.ofNat 0), (0, 98, Int.ofNat 0), (0, 96, Int.ofNat 0), (0, 86, Int.ofNat 0)])] (by dsimp only [cq_L_245, al_L_245])
set_option maxRecDepth 100000 in
theorem ah_L_246 : rf_ALT cq_L_246 := rf_alt_inf [(135, [], [(0, 91, Int.ofNat 0), (0, 91, Int.ofNat 0), (0, 97, Int.ofNat 0), (0, 94, Int.ofNat 0), (0, 86, Int.ofNat 0)])] (by dsimp only [cq_L_246, al_L_246])
set_option maxRecDepth 100000 in
theorem ah_L_247 : rf_ALT cq_L_247 := rf_alt_inf [(135, [], [(0, 91, Int.ofNat 0), (0, 91, Int.ofNat 0), (0, 94, Int.ofNat 0), (0, 0, Int.negSucc 0), (0, 86, Int.ofNat 0)])] (by dsimp only [cq_L_247, al_L_247])
set_option maxRecDepth 100000 in
theorem ah_L_248 : rf_ALT cq_L_248 := rf_alt_inf [(135, [], [(0, 91, Int.ofNat 0), (0, 91, Int.ofNat 0), (0, 98, Int.ofNat 0), (0, 94, Int.ofNat 0), (0, 86, Int.ofNat 0)]), (135, [], [(0, 89, Int.ofNat 0), (0, 89, Int.ofNat 0), (0, 99, Int.ofNat 0), (0, 96, Int.ofNat 0), (0, 86, Int.ofNat 0)]), (151, [], [(0, 98, Int.ofNat 0), (0, 96, Int.ofNat 0), (0, 98, Int.ofNat 0), (0, 98, Int.ofNat 0)])] (by dsimp only [cq_L_248, al_L_248])
set_option maxRecDepth 100000 in
theorem ah_L_249 : rf_ALT cq_L_249 := rf_alt_inf [(135, [], [(0, 91, Int.ofNat 0), (0, 91, Int.ofNat 0), (0, 98, Int.ofNat 0), (0, 94, Int.ofNat 0), (0, 86, Int.ofNat 0)]), (135, [], [(0, 89, Int.ofNat 0), (0, 89, Int.ofNat 0), (0, 99, Int.ofNat 0), (0, 96, Int.ofNat 0), (0, 86, Int.ofNat 0)])] (by dsimp only [cq_L_249, al_L_249])
set_option maxRecDepth 100000 in
theorem ah_L_250 : rf_ALT cq_L_250 := rf_alt_inf [(135, [], [(0, 91, Int.ofNat 0), (0, 91, Int.ofNat 0), (0, 95, Int.ofNat 0), (0, 0, Int.negSucc 0), (0, 86, Int.ofNat 0)])] (by dsimp only [cq_L_250, al_L_250])
set_option maxRecDepth 100000 in
theorem ah_L_251 : rf_ALT cq_L_251 := rf_alt_inf [(135, [], [(0, 91, Int.ofNat 0), (0, 91, Int.ofNat 0), (0, 95, Int.ofNat 0), (0, 94, Int.ofNat 0), (0, 86, Int.ofNat 0)])] (by dsimp only [cq_L_251, al_L_251])
set_option maxRecDepth 100000 in
theorem ah_L_252 : rf_ALT cq_L_252 := rf_alt_inf [(135, [], [(0, 91, Int.ofNat 0), (0, 91, Int.ofNat 0), (0, 98, Int.ofNat 0), (0, 94, Int.ofNat 0), (0, 86, Int.ofNat 0)]), (135, [], [(0, 89, Int.ofNat 0), (0, 89, Int.ofNat 0), (0, 99, Int.ofNat 0), (0, 96, Int.ofNat 0), (0, 86, Int.ofNat 0)]), (151, [], [(0, 99, Int.ofNat 0), (0, 94, Int.ofNat 0), (0, 98, Int.ofNat 0), (0, 98, Int.ofNat 0)])] (by dsimp only [cq_L_252, al_L_252])
set_option maxRecDepth 100000 in
theorem ah_L_253 : rf_ALT cq_L_253 := rf_alt_inf [(135, [], [(0, 91, Int.ofNat 0), (0, 91, Int.ofNat 0), (0, 96, Int.ofNat 0), (0, 0, Int.negSucc 0), (0, 86, Int.ofNat 0)])] (by dsimp only [cq_L_253, al_L_253])
set_option maxRecDepth 100000 in
theorem ah_L_254 : rf_ALT cq_L_254 := rf_alt_inf [(135, [], [(0, 91, Int.ofNat 0), (0, 91, Int.ofNat 0), (0, 96, Int.ofNat 0), (0, 94, Int.ofNat 0), (0, 86, Int.ofNat 0)]), (135, [], [(0, 89, Int.ofNat 0), (0, 89, Int.ofNat 0), (0, 97, Int.ofNat 0), (0, 0, Int.negSucc 0), (0, 86, Int.ofNat 0)])] (by dsimp only [cq_L_254, al_L_254])
set_option maxRecDepth 100000 in
theorem ah_L_255 : rf_ALT cq_L_255 := rf_alt_inf [(135, [], [(0, 91, Int.ofNat 0), (0, 91, Int.ofNat 0), (0, 96, Int.ofNat 0), (0, 94, Int.ofNat 0), (0, 86, Int.ofNat 0)])] (by dsimp only [cq_L_255, al_L_255])
set_option maxRecDepth 100000 in
theorem ah_L_256 : rf_ALT cq_L_256 := rf_alt_inf [(135, [], [(0, 91, Int.ofNat 0), (0, 91, Int.ofNat 0), (0, 97, Int.ofNat 0), (0, 94, Int.ofNat 0), (0, 86, Int.ofNat 0)]), (135, [], [(0, 89, Int.ofNat 0), (0, 89, Int.ofNat 0), (0, 98, Int.ofNat 0), (0, 96, Int.ofNat 0), (0, 86, Int.ofNat 0)])] (by dsimp only [cq_L_256, al_L_256])
set_option maxRecDepth 100000 in
theorem ah_L_257 : rf_ALT cq_L_257 := rf_alt_inf [(135, [], [(0, 91, Int.ofNat 0), (0, 91, Int.ofNat 0), (0, 97, Int.ofNat 0), (0, 94, Int.ofNat 0), (0, 86, Int.ofNat 0)])] (by dsimp only [cq_L_257, al_L_257])
set_option maxRecDepth 100000 in
theorem ah_L_258 : rf_ALT cq_L_258 := rf_alt_inf [(135, [], [(0, 91, Int.ofNat 0), (0, 91, Int.ofNat 0), (0, 100, Int.ofNat 0), (0, 94, Int.ofNat 0), (0, 86, Int.ofNat 0)]), (135, [], [(0, 89, Int.ofNat 0), (0, 89, Int.ofNat 0), (0, 101, Int.ofNat 0), (0, 96, Int.ofNat 0), (0, 86, Int.ofNat 0)]), (135, [], [(0, 89, Int.ofNat 0), (0, 89, Int.ofNat 0), (0, 98, Int.ofNat 0), (0, 97, Int.ofNat 0), (0, 87, Int.ofNat 0)]), (146, [], [(0, 98, Int.ofNat 0), (0, 93, Int.ofNat 0), (0, 99, Int.ofNat 0), (0, 90, Int.ofNat 0)]), (151, [], [(0, 100, Int.ofNat 0), (0, 96, Int.ofNat 0), (0, 100, Int.ofNat 0), (0, 100, Int.ofNat 0)])] (by dsimp only [cq_L_258, al_L_258])
set_option maxRecDepth 100000 in
theorem ah_L_259 : rf_ALT cq_L_259 := rf_alt_inf [(135, [], [(0, 91, Int.ofNat 0), (0, 91, Int.ofNat 0), (0, 96, Int.ofNat 0), (0, 0, Int.negSucc 0), (0, 86, Int.ofNat 0)])] (by dsimp only [cq_L_259, al_L_259])
set_option maxRecDepth 100000 in
theorem ah_L_260 : rf_ALT cq_L_260 := rf_alt_inf [(135, [], [(0, 89, Int.ofNat 0), (0, 89, Int.ofNat 0), (0, 99, Int.ofNat 0), (0, 98, Int.ofNat 0), (0, 86, Int.ofNat 0)])] (by dsimp only [cq_L_260, al_L_260])
set_option maxRecDepth 100000 in
theorem ah_L_261 : rf_ALT cq_L_261 := rf_alt_inf [(135, [], [(0, 91, Int.ofNat 0), (0, 91, Int.ofNat 0), (0, 99, Int.ofNat 0), (0, 96, Int.ofNat 0), (0, 86, Int.ofNat 0)])] (by dsimp only [cq_L_261, al_L_261])
set_option maxRecDepth 100000 in
theorem ah_L_262 : rf_ALT cq_L_262 := rf_alt_inf [(135, [], [(0, 91, Int.ofNat 0), (0, 91, Int.ofNat 0), (0, 99, Int.ofNat 0), (0, 96, Int.ofNat 0), (0, 86, Int.ofNat 0)])] (by dsimp only [cq_L_262, al_L_262])
set_option maxRecDepth 100000 in
theorem ah_L_263 : rf_ALT cq_L_263 := rf_alt_inf [(135, [], [(0, 91, Int.ofNat 0), (0, 91, Int.ofNat 0), (0, 99, Int.ofNat 0), (0, 96, Int.ofNat 0), (0, 86, Int.ofNat 0)]), (135, [], [(0, 89, Int.ofNat 0), (0, 89, Int.ofNat 0), (0, 100, Int.ofNat 0), (0, 98, Int.ofNat 0), (0, 86, Int.ofNat 0)])] (by dsimp only [cq_L_263, al_L_263])
set_option maxRecDepth 100000 in
theorem ah_L_264 : rf_ALT cq_L_264 := rf_alt_inf [(135, [], [(0, 91, Int.ofNat 0), (0, 91, Int.ofNat 0), (0, 99, Int.ofNat 0), (0, 96, Int.ofNat 0), (0, 86, Int.ofNat 0)])] (by dsimp only [cq_L_264, al_L_264])
set_option maxRecDepth 100000 in
theorem ah_L_265 : rf_ALT cq_L_265 := rf_alt_inf [(135, [], [(0, 91, Int.ofNat 0), (0, 91, Int.ofNat 0), (0, 99, Int.ofNat 0), (0, 96, Int.ofNat 0), (0, 86, Int.ofNat 0)])] (by dsimp only [cq_L_265, al_L_265])
set_option maxRecDepth 100000 in
theorem ah_L_266 : rf_ALT cq_L_266 := rf_alt_inf [(135, [], [(0, 91, Int.ofNat 0), (0, 91, Int.ofNat 0), (0, 101, Int.ofNat 0), (0, 96, Int.ofNat 0), (0, 86, Int.ofNat 0)]), (135, [], [(0, 89, Int.ofNat 0), (0, 89, Int.ofNat 0), (0, 102, Int.ofNat 0), (0, 98, Int.ofNat 0), (0, 86, Int.ofNat 0)]), (135, [], [(0, 89, Int.ofNat 0), (0, 89, Int.ofNat 0), (0, 99, Int.ofNat 0), (0, 94, Int.ofNat 0), (0, 87, Int.ofNat 0)]), (146, [], [(0, 99, Int.ofNat 0), (0, 93, Int.ofNat 0), (0, 100, Int.ofNat 0), (0, 90, Int.ofNat 0)]), (146, [], [(0, 94, Int.ofNat 0), (0, 90, Int.ofNat 0), (0, 95, Int.ofNat 0), (0, 93, Int.ofNat 0)])] (by dsimp only [cq_L_266, al_L_266])
set_option maxRecDepth 100000 in
theorem ah_L_267 : rf_ALT cq_L_267 := rf_alt_inf [(135, [], [(0, 91, Int.ofNat 0), (0, 91, Int.ofNat 0), (0, 99, Int.ofNat 0), (0, 96, Int.ofNat 0), (0, 86, Int.ofNat 0)]), (135, [], [(0, 89, Int.ofNat 0), (0, 89, Int.ofNat 0), (0, 100, Int.ofNat 0), (0, 98, Int.ofNat 0), (0, 86, Int.ofNat 0)]), (146, [], [(0, 94, Int.ofNat 0), (0, 90, Int.ofNat 0), (0, 95, Int.ofNat 0), (0, 93, Int.ofNat 0)]), (151, [], [(0, 100, Int.ofNat 0), (0, 99, Int.ofNat 0), (0, 99, Int.ofNat 0), (0, 96, Int.ofNat 0)])] (by dsimp only [cq_L_267, al_L_267])
set_option maxRecDepth 100000 in
theorem ah_L_268 : rf_ALT cq_L_268 := rf_alt_inf [(135, [], [(0, 91, Int.ofNat 0), (0, 91, Int.ofNat 0), (0, 99, Int.ofNat 0), (0, 96, Int.ofNat 0), (0, 86, Int.ofNat 0)]), (135, [], [(0, 89, Int.ofNat 0), (0, 89, Int.ofNat 0), (0, 100, Int.ofNat 0), (0, 98, Int.ofNat 0), (0, 86, Int.ofNat 0)]), (146, [], [(0, 94, Int.ofNat 0), (0, 90, Int.ofNat 0), (0, 95, Int.ofNat 0), (0, 93, Int.ofNat 0)]), (151, [], [(0, 99, Int.ofNat 0), (0, 100, Int.ofNat 0), (0, 100, Int.ofNat 0), (0, 96, Int.ofNat 0)])] (by dsimp only [cq_L_268, al_L_268])
set_option maxRecDepth 100000 in
theorem ah_L_269 : rf_ALT cq_L_269 := rf_alt_inf [(135, [], [(0, 91, Int.ofNat 0), (0, 91, Int.ofNat 0), (0, 97, Int.ofNat 0), (0, 0, Int.negSucc 0), (0, 86, Int.ofNat 0)])] (by dsimp only [cq_L_269, al_L_269])
set_option maxRecDepth 100000 in
theorem ah_L_270 : rf_ALT cq_L_270 := rf_alt_inf [(135, [], [(0, 91, Int.ofNat 0), (0, 91, Int.ofNat 0), (0, 97, Int.ofNat 0), (0, 94, Int.ofNat 0), (0, 86, Int.ofNat 0)])] (by dsimp only [cq_L_270, al_L_270])
set_option maxRecDepth 100000 in
theorem ah_L_271 : rf_ALT cq_L_271 := rf_alt_inf [(135, [], [(0, 91, Int.ofNat 0), (0, 91, Int.ofNat 0), (0, 100, Int.ofNat 0), (0, 94, Int.ofNat 0), (0, 86, Int.ofNat 0)]), (135, [], [(0, 89, Int.ofNat 0), (0, 89, Int.ofNat 0), (0, 101, Int.ofNat 0), (0, 96, Int.ofNat 0), (0, 86, Int.ofNat 0)]), (135, [], [(0, 89, Int.ofNat 0), (0, 89, Int.ofNat 0), (0, 98, Int.ofNat 0), (0, 97, Int.ofNat 0), (0, 87, Int.ofNat 0)]), (146, [], [(0, 98, Int.ofNat 0), (0, 93, Int.ofNat 0), (0, 99, Int.ofNat 0), (0, 90, Int.ofNat 0)]), (151, [], [(0, 101, Int.ofNat 0), (0, 94, Int.ofNat 0), (0, 100, Int.ofNat 0), (0, 100, Int.ofNat 0)])] (by dsimp only [cq_L_271, al_L_271])
set_option maxRecDepth 100000 in
theorem ah_L_272 : rf_ALT cq_L_272 := rf_alt_inf [(135, [], [(0, 91, Int.ofNat 0), (0, 91, Int.ofNat 0), (0, 98, Int.ofNat 0), (0, 0, Int.negSucc 0), (0, 86, Int.ofNat 0)])] (by dsimp only [cq_L_272, al_L_272])
set_option maxRecDepth 100000 in
theorem ah_L_273 : rf_ALT cq_L_273 := rf_alt_inf [(135, [], [(0, 91, Int.ofNat 0), (0, 91, Int.ofNat 0), (0, 98, Int.ofNat 0), (0, 94, Int.ofNat 0), (0, 86, Int.ofNat 0)]), (135, [], [(0, 89, Int.ofNat 0), (0, 89, Int.ofNat 0), (0, 99, Int.ofNat 0), (0, 0, Int.negSucc 0), (0, 86, Int.ofNat 0)])] (by dsimp only [cq_L_273, al_L_273])
set_option maxRecDepth 100000 in
theorem ah_L_274 : rf_ALT cq_L_274 := rf_alt_inf [(135, [], [(0, 91, Int.ofNat 0), (0, 91, Int.ofNat 0), (0, 98, Int.ofNat 0), (0, 94, Int.ofNat 0), (0, 86, Int.ofNat 0)])] (by dsimp only [cq_L_274, al_L_274])
set_option maxRecDepth 100000 in
theorem ah_L_275 : rf_ALT cq_L_275 := rf_alt_inf [(135, [], [(0, 91, Int.ofNat 0), (0, 91, Int.ofNat 0), (0, 99, Int.ofNat 0), (0, 94, Int.ofNat 0), (0, 86, Int.ofNat 0)]), (135, [], [(0, 89, Int.ofNat 0), (0, 89, Int.ofNat 0), (0, 100, Int.ofNat 0), (0, 96, Int.ofNat 0), (0, 86, Int.ofNat 0)])] (by dsimp only [cq_L_275, al_L_275])
set_option maxRecDepth 100000 in
theorem ah_L_276 : rf_ALT cq_L_276 := rf_alt_inf [(135, [], [(0, 91, Int.ofNat 0), (0, 91, Int.ofNat 0), (0, 99, Int.ofNat 0), (0, 94, Int.ofNat 0), (0, 86, Int.ofNat 0)])] (by dsimp only [cq_L_276, al_L_276])
set_option maxRecDepth 100000 in
theorem ah_L_277 : rf_ALT cq_L_277 := rf_alt_inf [(135, [], [(0, 89, Int.ofNat 0), (0, 89, Int.ofNat 0), (0, 100, Int.ofNat 0), (0, 99, Int.ofNat 0), (0, 86, Int.ofNat 0)])] (by dsimp only [cq_L_277, al_L_277])
set_option maxRecDepth 100000 in
theorem ah_L_278 : rf_ALT cq_L_278 := rf_alt_inf [(135, [], [(0, 91, Int.ofNat 0), (0, 91, Int.ofNat 0), (0, 100, Int.ofNat 0), (0, 98, Int.ofNat 0), (0, 86, Int.ofNat 0)])] (by dsimp only [cq_L_278, al_L_278])
set_option maxRecDepth 100000 in
theorem ah_L_279 : rf_ALT cq_L_279 := rf_alt_inf [(135, [], [(0, 91, Int.ofNat 0), (0, 91, Int.ofNat 0), (0, 100, Int.ofNat 0), (0, 98, Int.ofNat 0), (0, 86, Int.ofNat 0)])] (by dsimp only [cq_L_279, al_L_279])
set_option maxRecDepth 100000 in
theorem ah_L_280 : rf_ALT cq_L_280 := rf_alt_inf [(135, [], [(0, 91, Int.ofNat 0), (0, 91, Int.ofNat 0), (0, 100, Int.ofNat 0), (0, 98, Int.ofNat 0), (0, 86, Int.ofNat 0)]), (135, [], [(0, 89, Int.ofNat 0), (0, 89, Int.ofNat 0), (0, 101, Int.ofNat 0), (0, 99, Int.ofNat 0), (0, 86, Int.ofNat 0)])] (by dsimp only [cq_L_280, al_L_280])
set_option maxRecDepth 100000 in
theorem ah_L_281 : rf_ALT cq_L_281 := rf_alt_inf [(135, [], [(0, 91, Int.ofNat 0), (0, 91, Int.ofNat 0), (0, 100, Int.ofNat 0), (0, 98, Int.ofNat 0), (0, 86, Int.ofNat 0)])] (by dsimp only [cq_L_281, al_L_281])
set_option maxRecDepth 100000 in
theorem ah_L_282 : rf_ALT cq_L_282 := rf_alt_inf [(135, [], [(0, 91, Int.ofNat 0), (0, 91, Int.ofNat 0), (0, 100, Int.ofNat 0), (0, 98, Int.ofNat 0), (0, 86, Int.ofNat 0)])] (by dsimp only [cq_L_282, al_L_282])
set_option maxRecDepth 100000 in
theorem ah_L_283 : rf_ALT cq_L_283 := rf_alt_inf [(135, [], [(0, 91, Int.ofNat 0), (0, 91, Int.ofNat 0), (0, 100, Int.ofNat 0), (0, 98, Int.ofNat 0), (0, 86, Int.ofNat 0)]), (135, [], [(0, 89, Int.ofNat 0), (0, 89, Int.ofNat 0), (0, 101, Int.ofNat 0), (0, 99, Int.ofNat 0), (0, 86, Int.ofNat 0)]), (147, [], [(0, 94, Int.ofNat 0), (0, 92, Int.ofNat 0), (0, 95, Int.ofNat 0), (0, 93, Int.ofNat 0)]), (147, [], [(0, 96, Int.ofNat 0), (0, 90, Int.ofNat 0), (0, 97, Int.ofNat 0), (0, 93, Int.ofNat 0)]), (151, [], [(0, 100, Int.ofNat 0), (0, 101, Int.ofNat 0), (0, 101, Int.ofNat 0), (0, 98, Int.ofNat 0)])] (by dsimp only [cq_L_283, al_L_283])
set_option maxRecDepth 100000 in
theorem ah_L_284 : rf_ALT cq_L_284 := rf_alt_inf [(135, [], [(0, 91, Int.ofNat 0), (0, 91, Int.ofNat 0), (0, 100, Int.ofNat 0), (0, 98, Int.ofNat 0), (0, 86, Int.ofNat 0)]), (135, [], [(0, 89, Int.ofNat 0), (0, 89, Int.ofNat 0), (0, 101, Int.ofNat 0), (0, 99, Int.ofNat 0), (0, 86, Int.ofNat 0)]), (147, [], [(0, 94, Int.ofNat 0), (0, 92, Int.ofNat 0), (0, 95, Int.ofNat 0), (0, 93, Int.ofNat 0)]), (147, [], [(0, 96, Int.ofNat 0), (0, 90, Int.ofNat 0), (0, 97, Int.ofNat 0), (0, 93, Int.ofNat 0)]), (151, [], [(0, 101, Int.ofNat 0), (0, 100, Int.ofNat 0), (0, 100, Int.ofNat 0), (0, 98, Int.ofNat 0)])] (by dsimp only [cq_L_284, al_L_284])
set_option maxRecDepth 100000 in
theorem ah_L_285 : rf_ALT cq_L_285 := rf_alt_inf [(135, [], [(0, 91, Int.ofNat 0), (0, 91, Int.ofNat 0), (0, 102, Int.ofNat 0), (0, 98, Int.ofNat 0), (0, 86, Int.ofNat 0)]), (135, [], [(0, 89, Int.ofNat 0), (0, 89, Int.ofNat 0), (0, 103, Int.ofNat 0), (0, 99, Int.ofNat 0), (0, 86, Int.ofNat 0)]), (135, [], [(0, 89, Int.ofNat 0), (0, 89, Int.ofNat 0), (0, 100, Int.ofNat 0), (0, 96, Int.ofNat 0), (0, 87, Int.ofNat 0)]), (146, [], [(0, 100, Int.ofNat 0), (0, 93, Int.ofNat 0), (0, 101, Int.ofNat 0), (0, 90, Int.ofNat 0)]), (147, [], [(0, 94, Int.ofNat 0), (0, 92, Int.ofNat 0), (0, 95, Int.ofNat 0), (0, 93, Int.ofNat 0)]), (147, [], [(0, 96, Int.ofNat 0), (0, 90, Int.ofNat 0), (0, 97, Int.ofNat 0), (0, 93, Int.ofNat 0)]), (152, [], [(0, 90, Int.ofNat 0), (0, 93, Int.ofNat 0), (0, 96, Int.ofNat 0), (0, 100, Int.ofNat 0)])] (by dsimp only [cq_L_285, al_L_285])
set_option maxRecDepth 100000 in
theorem ah_L_286 : rf_ALT cq_L_286 := rf_alt_inf [(135, [], [(0, 89, Int.ofNat 0), (0, 89, Int.ofNat 0), (0, 100, Int.ofNat 0), (0, 99, Int.ofNat 0), (0, 86, Int.ofNat 0)])] (by dsimp only [cq_L_286, al_L_286])
set_option maxRecDepth 100000 in
theorem ah_L_287 : rf_ALT cq_L_287 := rf_alt_inf [(135, [], [(0, 91, Int.ofNat 0), (0, 91, Int.ofNat 0), (0, 100, Int.ofNat 0), (0, 98, Int.ofNat 0), (0, 86, Int.ofNat 0)])] (by dsimp only [cq_L_287, al_L_287])
set_option maxRecDepth 100000 in
theorem ah_L_288 : rf_ALT cq_L_288 := rf_alt_inf [(135, [], [(0, 91, Int.ofNat 0), (0, 91, Int.ofNat 0), (0, 100, Int.ofNat 0), (0, 98, Int.ofNat 0), (0, 86, Int.ofNat 0)])] (by dsimp only [cq_L_288, al_L_288])
set_option maxRecDepth 100000 in
theorem ah_L_289 : rf_ALT cq_L_289 := rf_alt_inf [(135, [], [(0, 91, Int.ofNat 0), (0, 91, Int.ofNat 0), (0, 100, Int.ofNat 0), (0, 98, Int.ofNat 0), (0, 86, Int.ofNat 0)]), (135, [], [(0, 89, Int.ofNat 0), (0, 89, Int.ofNat 0), (0, 101, Int.ofNat 0), (0, 99, Int.ofNat 0), (0, 86, Int.ofNat 0)])] (by dsimp only [cq_L_289, al_L_289])
set_option maxRecDepth 100000 in
theorem ah_L_290 : rf_ALT cq_L_290 := rf_alt_inf [(135, [], [(0, 91, Int.ofNat 0), (0, 91, Int.ofNat 0), (0, 100, Int.ofNat 0), (0, 98, Int.ofNat 0), (0, 86, Int.ofNat 0)])] (by dsimp only [cq_L_290, al_L_290])
set_option maxRecDepth 100000 in
theorem ah_L_291 : rf_ALT cq_L_291 := rf_alt_inf [(135, [], [(0, 91, Int.ofNat 0), (0, 91, Int.ofNat 0), (0, 100, Int.ofNat 0), (0, 98, Int.ofNat 0), (0, 86, Int.ofNat 0)])] (by dsimp only [cq_L_291, al_L_291])
set_option maxRecDepth 100000 in
theorem ah_L_292 : rf_ALT cq_L_292 := rf_alt_inf [(135, [], [(0, 91, Int.ofNat 0), (0, 91, Int.ofNat 0), (0, 100, Int.ofNat 0), (0, 98, Int.ofNat 0), (0, 86, Int.ofNat 0)]), (135, [], [(0, 89, Int.ofNat 0), (0, 89, Int.ofNat 0), (0, 101, Int.ofNat 0), (0, 99, Int.ofNat 0), (0, 86, Int.ofNat 0)]), (146, [], [(0, 94, Int.ofNat 0), (0, 92, Int.ofNat 0), (0, 95, Int.ofNat 0), (0, 93, Int.ofNat 0)]), (147, [], [(0, 96, Int.ofNat 0), (0, 90, Int.ofNat 0), (0, 97, Int.ofNat 0), (0, 93, Int.ofNat 0)]), (151, [], [(0, 100, Int.ofNat 0), (0, 101, Int.ofNat 0), (0, 101, Int.ofNat 0), (0, 98, Int.ofNat 0)])] (by dsimp only [cq_L_292, al_L_292])
set_option maxRecDepth 100000 in
theorem ah_L_293 : rf_ALT cq_L_293 := rf_alt_inf [(135, [], [(0, 91, Int.ofNat 0), (0, 91, Int.ofNat 0), (0, 100, Int.ofNat 0), (0, 98, Int.ofNat 0), (0, 86, Int.ofNat 0)]), (135, [], [(0, 89, Int.ofNat 0), (0, 89, Int.ofNat 0), (0, 101, Int.ofNat 0), (0, 99, Int.ofNat 0), (0, 86, Int.ofNat 0)]), (146, [], [(0, 94, Int.ofNat 0), (0, 92, Int.ofNat 0), (0, 95, Int.ofNat 0), (0, 93, Int.ofNat 0)]), (147, [], [(0, 96, Int.ofNat 0), (0, 90, Int.ofNat 0), (0, 97, Int.ofNat 0), (0, 93, Int.ofNat 0)]), (151, [], [(0, 101, Int.ofNat 0), (0, 100, Int.ofNat 0), (0, 100, Int.ofNat 0), (0, 98, Int.ofNat 0)])] (by dsimp only [cq_L_293, al_L_293])
set_option maxRecDepth 100000 in
theorem ah_L_294 : rf_ALT cq_L_294 := rf_alt_inf [(135, [], [(0, 91, Int.ofNat 0), (0, 91, Int.ofNat 0), (0, 102, Int.ofNat 0), (0, 98, Int.ofNat 0), (0, 86, Int.ofNat 0)]), (135, [], [(0, 89, Int.ofNat 0), (0, 89, Int.ofNat 0), (0, 103, Int.ofNat 0), (0, 99, Int.ofNat 0), (0, 86, Int.ofNat 0)]), (135, [], [(0, 89, Int.ofNat 0), (0, 89, Int.ofNat 0), (0, 100, Int.ofNat 0), (0, 96, Int.ofNat 0), (0, 87, Int.ofNat 0)]), (146, [], [(0, 100, Int.ofNat 0), (0, 93, Int.ofNat 0), (0, 101, Int.ofNat 0), (0, 90, Int.ofNat 0)]), (146, [], [(0, 94, Int.ofNat 0), (0, 92, Int.ofNat 0), (0, 95, Int.ofNat 0), (0, 93, Int.ofNat 0)]), (147, [], [(0, 96, Int.ofNat 0), (0, 90, Int.ofNat 0), (0, 97, Int.ofNat 0), (0, 93, Int.ofNat 0)]), (152, [], [(0, 90, Int.ofNat 0), (0, 93, Int.ofNat 0), (0, 96, Int.ofNat 0), (0, 100, Int.ofNat 0)])] (by dsimp only [cq_L_294, al_L_294])
set_option maxRecDepth 100000 in
theorem ah_L_295 : rf_ALT cq_L_295 := rf_alt_inf [(135, [], [(0, 91, Int.ofNat 0), (0, 91, Int.ofNat 0), (0, 101, Int.ofNat 0), (0, 94, Int.ofNat 0), (0, 86, Int.ofNat 0)]), (135, [], [(0, 91, Int.ofNat 0), (0, 91, Int.ofNat 0), (0, 97, Int.ofNat 0), (0, 95, Int.ofNat 0), (0, 87, Int.ofNat 0)]), (135, [], [(0, 89, Int.ofNat 0), (0, 89, Int.ofNat 0), (0, 102, Int.ofNat 0), (0, 96, Int.ofNat 0), (0, 86, Int.ofNat 0)])] (by dsimp only [cq_L_295, al_L_295])
set_option maxRecDepth 100000 in
theorem ah_L_296 : rf_ALT cq_L_296 := rf_alt_inf [(135, [], [(0, 91, Int.ofNat 0), (0, 91, Int.ofNat 0), (0, 101, Int.ofNat 0), (0, 94, Int.ofNat 0), (0, 86, Int.ofNat 0)])] (by dsimp only [cq_L_296, al_L_296])
set_option maxRecDepth 100000 in
theorem ah_L_297 : rf_ALT cq_L_297 := rf_alt_inf [(135, [], [(0, 91, Int.ofNat 0), (0, 91, Int.ofNat 0), (0, 102, Int.ofNat 0), (0, 94, Int.ofNat 0), (0, 86, Int.ofNat 0)]), (135, [], [(0, 91, Int.ofNat 0), (0, 91, Int.ofNat 0), (0, 98, Int.ofNat 0), (0, 95, Int.ofNat 0), (0, 87, Int.ofNat 0)]), (135, [], [(0, 89, Int.ofNat 0), (0, 89, Int.ofNat 0), (0, 103, Int.ofNat 0), (0, 96, Int.ofNat 0), (0, 86, Int.ofNat 0)]), (135, [], [(0, 89, Int.ofNat 0), (0, 89, Int.ofNat 0), (0, 100, Int.ofNat 0), (0, 97, Int.ofNat 0), (0, 87, Int.ofNat 0)]), (146, [], [(0, 98, Int.ofNat 0), (0, 93, Int.ofNat 0), (0, 99, Int.ofNat 0), (0, 92, Int.ofNat 0)]), (147, [], [(0, 100, Int.ofNat 0), (0, 93, Int.ofNat 0), (0, 101, Int.ofNat 0), (0, 90, Int.ofNat 0)]), (151, [], [(0, 102, Int.ofNat 0), (0, 96, Int.ofNat 0), (0, 102, Int.ofNat 0), (0, 102, Int.ofNat 0)])] (by dsimp only [cq_L_297, al_L_297])
set_option maxRecDepth 100000 in
theorem ah_L_298 : rf_ALT cq_L_298 := rf_alt_inf [(135, [], [(0, 91, Int.ofNat 0), (0, 91, Int.ofNat 0), (0, 102, Int.ofNat 0), (0, 94, Int.ofNat 0), (0, 86, Int.ofNat 0)]), (135, [], [(0, 91, Int.ofNat 0), (0, 91, Int.ofNat 0), (0, 98, Int.ofNat 0), (0, 95, Int.ofNat 0), (0, 87, Int.ofNat 0)]), (135, [], [(0, 89, Int.ofNat 0), (0, 89, Int.ofNat 0), (0, 103, Int.ofNat 0), (0, 96, Int.ofNat 0), (0, 86, Int.ofNat 0)]), (135, [], [(0, 89, Int.ofNat 0), (0, 89, Int.ofNat 0), (0, 100, Int.ofNat 0), (0, 97, Int.ofNat 0), (0, 87, Int.ofNat 0)]), (146, [], [(0, 98, Int.ofNat 0), (0, 93, Int.ofNat 0), (0, 99, Int.ofNat 0), (0, 92, Int.ofNat 0)]), (147, [], [(0, 100, Int.ofNat 0), (0, 93, Int.ofNat 0), (0, 101, Int.ofNat 0), (0, 90, Int.ofNat 0)]), (151, [], [(0, 103, Int.ofNat 0), (0, 94, Int.ofNat 0), (0, 102, Int.ofNat 0), (0, 102, Int.ofNat 0)])] (by dsimp only [cq_L_298, al_L_298])
set_option maxRecDepth 100000 in
theorem ah_L_299 : rf_ALT cq_L_299 := rf_alt_inf [(135, [], [(0, 91, Int.ofNat 0), (0, 91, Int.ofNat 0), (0, 103, Int.ofNat 0), (0, 96, Int.ofNat 0), (0, 86, Int.ofNat 0)]), (135, [], [(0, 91, Int.ofNat 0), (0, 91, Int.ofNat 0), (0, 99, Int.ofNat 0), (0, 97, Int.ofNat 0), (0, 87, Int.ofNat 0)]), (135, [], [(0, 89, Int.ofNat 0), (0, 89, Int.ofNat 0), (0, 104, Int.ofNat 0), (0, 98, Int.ofNat 0), (0, 86, Int.ofNat 0)]), (135, [], [(0, 89, Int.ofNat 0), (0, 89, Int.ofNat 0), (0, 101, Int.ofNat 0), (0, 94, Int.ofNat 0), (0, 87, Int.ofNat 0)]), (146, [], [(0, 99, Int.ofNat 0), (0, 93, Int.ofNat 0), (0, 100, Int.ofNat 0), (0, 92, Int.ofNat 0)]), (147, [], [(0, 101, Int.ofNat 0), (0, 93, Int.ofNat 0), (0, 102, Int.ofNat 0), (0, 90, Int.ofNat 0)]), (146, [], [(0, 94, Int.ofNat 0), (0, 90, Int.ofNat 0), (0, 95, Int.ofNat 0), (0, 93, Int.ofNat 0)]), (152, [], [(0, 93, Int.ofNat 0), (0, 90, Int.ofNat 0), (0, 101, Int.ofNat 0), (0, 94, Int.ofNat 0)])] (by dsimp only [cq_L_299, al_L_299])
set_option maxRecDepth 100000 in
theorem ah_L_300 : rf_ALT cq_L_300 := rf_alt_inf [(135, [], [(0, 91, Int.ofNat 0), (0, 91, Int.ofNat 0), (0, 104, Int.ofNat 0), (0, 98, Int.ofNat 0), (0, 86, Int.ofNat 0)]), (135, [], [(0, 91, Int.ofNat 0), (0, 91, Int.ofNat 0), (0, 100, Int.ofNat 0), (0, 94, Int.ofNat 0), (0, 87, Int.ofNat 0)]), (135, [], [(0, 89, Int.ofNat 0), (0, 89, Int.ofNat 0), (0, 105, Int.ofNat 0), (0, 99, Int.ofNat 0), (0, 86, Int.ofNat 0)]), (135, [], [(0, 89, Int.ofNat 0), (0, 89, Int.ofNat 0), (0, 102, Int.ofNat 0), (0, 96, Int.ofNat 0), (0, 87, Int.ofNat 0)]), (146, [], [(0, 100, Int.ofNat 0), (0, 93, Int.ofNat 0), (0, 101, Int.ofNat 0), (0, 92, Int.ofNat 0)]), (147, [], [(0, 102, Int.ofNat 0), (0, 93, Int.ofNat 0), (0, 103, Int.ofNat 0), (0, 90, Int.ofNat 0)]), (147, [], [(0, 94, Int.ofNat 0), (0, 92, Int.ofNat 0), (0, 95, Int.ofNat 0), (0, 93, Int.ofNat 0)]), (147, [], [(0, 96, Int.ofNat 0), (0, 90, Int.ofNat 0), (0, 97, Int.ofNat 0), (0, 93, Int.ofNat 0)]), (152, [], [(0, 92, Int.ofNat 0), (0, 93, Int.ofNat 0), (0, 94, Int.ofNat 0), (0, 100, Int.ofNat 0)])] (by dsimp only [cq_L_300, al_L_300])
set_option maxRecDepth 100000 in
theorem ah_L_301 : rf_ALT cq_L_301 := rf_alt_inf [(135, [], [(0, 91, Int.ofNat 0), (0, 91, Int.ofNat 0), (0, 104, Int.ofNat 0), (0, 98, Int.ofNat 0), (0, 86, Int.ofNat 0)]), (135, [], [(0, 91, Int.ofNat 0), (0, 91, Int.ofNat 0), (0, 100, Int.ofNat 0), (0, 94, Int.ofNat 0), (0, 87, Int.ofNat 0)]), (135, [], [(0, 89, Int.ofNat 0), (0, 89, Int.ofNat 0), (0, 105, Int.ofNat 0), (0, 99, Int.ofNat 0), (0, 86, Int.ofNat 0)]), (135, [], [(0, 89, Int.ofNat 0), (0, 89, Int.ofNat 0), (0, 102, Int.ofNat 0), (0, 96, Int.ofNat 0), (0, 87, Int.ofNat 0)]), (146, [], [(0, 100, Int.ofNat 0), (0, 93, Int.ofNat 0), (0, 101, Int.ofNat 0), (0, 92, Int.ofNat 0)]), (147, [], [(0, 102, Int.ofNat 0), (0, 93, Int.ofNat 0), (0, 103, Int.ofNat 0), (0, 90, Int.ofNat 0)]), (146, [], [(0, 94, Int.ofNat 0), (0, 92, Int.ofNat 0), (0, 95, Int.ofNat 0), (0, 93, Int.ofNat 0)]), (147, [], [(0, 96, Int.ofNat 0), (0, 90, Int.ofNat 0), (0, 97, Int.ofNat 0), (0, 93, Int.ofNat 0)])] (by dsimp only [cq_L_301, al_L_301])
set_option maxRecDepth 100000 in
theorem ah_L_302 : rf_ALT cq_L_302 := rf_alt_inf [(135, [], [(0, 91, Int.ofNat 0), (0, 91, Int.ofNat 0), (0, 98, Int.ofNat 0), (0, 0, Int.negSucc 0), (0, 86, Int.ofNat 0)])] (by dsimp only [cq_L_302, al_L_302])
set_option maxRecDepth 100000 in
theorem ah_L_303 : rf_ALT cq_L_303 := rf_alt_inf [(135, [], [(0, 91, Int.ofNat 0), (0, 91, Int.ofNat 0), (0, 99, Int.ofNat 0), (0, 0, Int.negSucc 0), (0, 86, Int.ofNat 0)])] (by dsimp only [cq_L_303, al_L_303])
set_option maxRecDepth 100000 in
theorem ah_L_304 : rf_ALT cq_L_304 := rf_alt_inf [(135, [], [(0, 91, Int.ofNat 0), (0, 91, Int.ofNat 0), (0, 99, Int.ofNat 0), (0, 94, Int.ofNat 0), (0, 86, Int.ofNat 0)])] (by dsimp only [cq_L_304, al_L_304])
set_option maxRecDepth 100000 in
theorem ah_L_305 : rf_ALT cq_L_305 := rf_alt_inf [(135, [], [(0, 91, Int.ofNat 0), (0, 91, Int.ofNat 0), (0, 100, Int.ofNat 0), (0, 0, Int.negSucc 0), (0, 86, Int.ofNat 0)])] (by dsimp only [cq_L_305, al_L_305])
set_option maxRecDepth 100000 in
theorem ah_L_306 : rf_ALT cq_L_306 := rf_alt_inf [(135, [], [(0, 91, Int.ofNat 0), (0, 91, Int.ofNat 0), (0, 100, Int.ofNat 0), (0, 94, Int.ofNat 0), (0, 86, Int.ofNat 0)]), (135, [], [(0, 91, Int.ofNat 0), (0, 91, Int.ofNat 0), (0, 96, Int.ofNat 0), (0, 95, Int.ofNat 0), (0, 87, Int.ofNat 0)]), (135, [], [(0, 89, Int.ofNat 0), (0, 89, Int.ofNat 0), (0, 101, Int.ofNat 0), (0, 0, Int.negSucc 0), (0, 86, Int.ofNat 0)])] (by dsimp only [cq_L_306, al_L_306])
set_option maxRecDepth 100000 in
theorem ah_L_307 : rf_ALT cq_L_307 := rf_alt_inf [(135, [], [(0, 91, Int.ofNat 0), (0, 91, Int.ofNat 0), (0, 100, Int.ofNat 0), (0, 94, Int.ofNat 0), (0, 86, Int.ofNat 0)])] (by dsimp only [cq_L_307, al_L_307])
set_option maxRecDepth 100000 in
theorem ah_L_308 : rf_ALT cq_L_308 := rf_alt_inf [(135, [], [(0, 91, Int.ofNat 0), (0, 91, Int.ofNat 0), (0, 101, Int.ofNat 0), (0, 94, Int.ofNat 0), (0, 86, Int.ofNat 0)]), (135, [], [(0, 91, Int.ofNat 0), (0, 91, Int.ofNat 0), (0, 97, Int.ofNat 0), (0, 95, Int.ofNat 0), (0, 87, Int.ofNat 0)]), (135, [], [(0, 89, Int.ofNat 0), (0, 89, Int.ofNat 0), (0, 102, Int.ofNat 0), (0, 96, Int.ofNat 0), (0, 86, Int.ofNat 0)])] (by dsimp only [cq_L_308, al_L_308])
set_option maxRecDepth 100000 in
theorem ah_L_309 : rf_ALT cq_L_309 := rf_alt_inf [(135, [], [(0, 91, Int.ofNat 0), (0, 91, Int.ofNat 0), (0, 101, Int.ofNat 0), (0, 94, Int.ofNat 0), (0, 86, Int.ofNat 0)])] (by dsimp only [cq_L_309, al_L_309])
set_option maxRecDepth 100000 in
theorem ah_L_310 : rf_ALT cq_L_310 := rf_alt_inf [(135, [], [(0, 91, Int.ofNat 0), (0, 91, Int.ofNat 0), (0, 102, Int.ofNat 0), (0, 94, Int.ofNat 0), (0, 86, Int.ofNat 0)]), (135, [], [(0, 91, Int.ofNat 0), (0, 91, Int.ofNat 0), (0, 98, Int.ofNat 0), (0, 95, Int.ofNat 0), (0, 87, Int.ofNat 0)]), (135, [], [(0, 89, Int.ofNat 0), (0, 89, Int.ofNat 0), (0, 103, Int.ofNat 0), (0, 96, Int.ofNat 0), (0, 86, Int.ofNat 0)]), (135, [], [(0, 89, Int.ofNat 0), (0, 89, Int.ofNat 0), (0, 100, Int.ofNat 0), (0, 97, Int.ofNat 0), (0, 87, Int.ofNat 0)]), (147, [], [(0, 98, Int.ofNat 0), (0, 93, Int.ofNat 0), (0, 99, Int.ofNat 0), (0, 92, Int.ofNat 0)]), (147, [], [(0, 100, Int.ofNat 0), (0, 93, Int.ofNat 0), (0, 101, Int.ofNat 0), (0, 90, Int.ofNat 0)]), (151, [], [(0, 102, Int.ofNat 0), (0, 96, Int.ofNat 0), (0, 102, Int.ofNat 0), (0, 102, Int.ofNat 0)])] (by dsimp only [cq_L_310, al_L_310])
set_option maxRecDepth 100000 in
theorem ah_L_311 : rf_ALT cq_L_311 := rf_alt_inf [(135, [], [(0, 91, Int.ofNat 0), (0, 91, Int.ofNat 0), (0, 102, Int.ofNat 0), (0, 94, Int.ofNat 0), (0, 86, Int.ofNat 0)]), (135, [], [(0, 91, Int.ofNat 0), (0, 91, Int.ofNat 0), (0, 98, Int.ofNat 0), (0, 95, Int.ofNat 0), (0, 87, Int.ofNat 0)]), (135, [], [(0, 89, Int.ofNat 0), (0, 89, Int.ofNat 0), (0, 103, Int.ofNat 0), (0, 96, Int.ofNat 0), (0, 86, Int.ofNat 0)]), (135, [], [(0, 89, Int.ofNat 0), (0, 89, Int.ofNat 0), (0, 100, Int.ofNat 0), (0, 97, Int.ofNat 0), (0, 87, Int.ofNat 0)]), (147, [], [(0, 98, Int.ofNat 0), (0, 93, Int.ofNat 0), (0, 99, Int.ofNat 0), (0, 92, Int.ofNat 0)]), (147, [], [(0, 100, Int.ofNat 0), (0, 93, Int.ofNat 0), (0, 101, Int.ofNat 0), (0, 90, Int.ofNat 0)]), (151, [], [(0, 103, Int.ofNat 0), (0, 94, Int.ofNat 0), (0, 102, Int.ofNat 0), (0, 102, Int.ofNat 0)])] (by dsimp only [cq_L_311, al_L_311])
set_option maxRecDepth 100000 in
theorem ah_L_312 : rf_ALT cq_L_312 := rf_alt_inf [(135, [], [(0, 91, Int.ofNat 0), (0, 91, Int.ofNat 0), (0, 103, Int.ofNat 0), (0, 96, Int.ofNat 0), (0, 86, Int.ofNat 0)]), (135, [], [(0, 91, Int.ofNat 0), (0, 91, Int.ofNat 0), (0, 99, Int.ofNat 0), (0, 97, Int.ofNat 0), (0, 87, Int.ofNat 0)]), (135, [], [(0, 89, Int.ofNat 0), (0, 89, Int.ofNat 0), (0, 104, Int.ofNat 0), (0, 98, Int.ofNat 0), (0, 86, Int.ofNat 0)]), (135, [], [(0, 89, Int.ofNat 0), (0, 89, Int.ofNat 0), (0, 101, Int.ofNat 0), (0, 94, Int.ofNat 0), (0, 87, Int.ofNat 0)]), (147, [], [(0, 99, Int.ofNat 0), (0, 93, Int.ofNat 0), (0, 100, Int.ofNat 0), (0, 92, Int.ofNat 0)]), (147, [], [(0, 101, Int.ofNat 0), (0, 93, Int.ofNat 0), (0, 102, Int.ofNat 0), (0, 90, Int.ofNat 0)]), (146, [], [(0, 94, Int.ofNat 0), (0, 90, Int.ofNat 0), (0, 95, Int.ofNat 0), (0, 93, Int.ofNat 0)]), (152, [], [(0, 93, Int.ofNat 0), (0, 90, Int.ofNat 0), (0, 101, Int.ofNat 0), (0, 94, Int.ofNat 0)])] (by dsimp only [cq_L_312, al_L_312])
set_option maxRecDepth 100000 in
theorem ah_L_313 : rf_ALT cq_L_313 := rf_alt_inf [(135, [], [(0, 91, Int.ofNat 0), (0, 91, Int.ofNat 0), (0, 104, Int.ofNat 0), (0, 98, Int.ofNat 0), (0, 86, Int.ofNat 0)]), (135, [], [(0, 91, Int.ofNat 0), (0, 91, Int.ofNat 0), (0, 100, Int.ofNat 0), (0, 94, Int.ofNat 0), (0, 87, Int.ofNat 0)]), (135, [], [(0, 89, Int.ofNat 0), (0, 89, Int.ofNat 0), (0, 105, Int.ofNat 0), (0, 99, Int.ofNat 0), (0, 86, Int.ofNat 0)]), (135, [], [(0, 89, Int.ofNat 0), (0, 89, Int.ofNat 0), (0, 102, Int.ofNat 0), (0, 96, Int.ofNat 0), (0, 87, Int.ofNat 0)]), (147, [], [(0, 100, Int.ofNat 0), (0, 93, Int.ofNat 0), (0, 101, Int.ofNat 0), (0, 92, Int.ofNat 0)]), (147, [], [(0, 102, Int.ofNat 0), (0, 93, Int.ofNat 0), (0, 103, Int.ofNat 0), (0, 90, Int.ofNat 0)]), (147, [], [(0, 94, Int.ofNat 0), (0, 92, Int.ofNat 0), (0, 95, Int.ofNat 0), (0, 93, Int.ofNat 0)]), (147, [], [(0, 96, Int.ofNat 0), (0, 90, Int.ofNat 0), (0, 97, Int.ofNat 0), (0, 93, Int.ofNat 0)])] (by dsimp only [cq_L_313, al_L_313])
set_option maxRecDepth 100000 in
theorem ah_L_314 : rf_ALT cq_L_314 := rf_alt_inf [(135, [], [(0, 91, Int.ofNat 0), (0, 91, Int.ofNat 0), (0, 104, Int.ofNat 0), (0, 98, Int.ofNat 0), (0, 86, Int.ofNat 0)]), (135, [], [(0, 91, Int.ofNat 0), (0, 91, Int.ofNat 0), (0, 100, Int.ofNat 0), (0, 94, Int.ofNat 0), (0, 87, Int.ofNat 0)]), (135, [], [(0, 89, Int.ofNat 0), (0, 89, Int.ofNat 0), (0, 105, Int.ofNat 0), (0, 99, Int.ofNat 0), (0, 86, Int.ofNat 0)]), (135, [], [(0, 89, Int.ofNat 0), (0, 89, Int.ofNat 0), (0, 102, Int.ofNat 0), (0, 96, Int.ofNat 0), (0, 87, Int.ofNat 0)]), (147, [], [(0, 100, Int.ofNat 0), (0, 93, Int.ofNat 0), (0, 101, Int.ofNat 0), (0, 92, Int.ofNat 0)]), (147, [], [(0, 102, Int.ofNat 0), (0, 93, Int.ofNat 0), (0, 103, Int.ofNat 0), (0, 90, Int.ofNat 0)]), (146, [], [(0, 94, Int.ofNat 0), (0, 92, Int.ofNat 0), (0, 95, Int.ofNat 0), (0, 93, Int.ofNat 0)]), (147, [], [(0, 96, Int.ofNat 0), (0, 90, Int.ofNat 0), (0, 97, Int.ofNat 0), (0, 93, Int.ofNat 0)]), (152, [], [(0, 93, Int.ofNat 0), (0, 92, Int.ofNat 0), (0, 100, Int.ofNat 0), (0, 94, Int.ofNat 0)])] (by dsimp only [cq_L_314, al_L_314])
set_option maxRecDepth 100000 in
theorem ah_L_315 : rf_ALT cq_L_315 := rf_alt_inf [(135, [], [(0, 91, Int.ofNat 0), (0, 91, Int.ofNat 0), (0, 98, Int.ofNat 0), (0, 0, Int.negSucc 0), (0, 86, Int.ofNat 0)])] (by dsimp only [cq_L_315, al_L_315])
set_option maxRecDepth 100000 in
theorem ah_L_316 : rf_ALT cq_L_316 := rf_alt_inf [(135, [], [(0, 91, Int.ofNat 0), (0, 91, Int.ofNat 0), (0, 99, Int.ofNat 0), (0, 0, Int.negSucc 0), (0, 86, Int.ofNat 0)])] (by dsimp only [cq_L_316, al_L_316])
set_option maxRecDepth 100000 in
theorem ah_L_317 : rf_ALT cq_L_317 := rf_alt_inf [(135, [], [(0, 91, Int.ofNat 0), (0, 91, Int.ofNat 0), (0, 99, Int.ofNat 0), (0, 94, Int.ofNat 0), (0, 86, Int.ofNat 0)])] (by dsimp only [cq_L_317, al_L_317])
set_option maxRecDepth 100000 in
theorem ah_L_318 : rf_ALT cq_L_318 := rf_alt_inf [(135, [], [(0, 91, Int.ofNat 0), (0, 91, Int.ofNat 0), (0, 100, Int.ofNat 0), (0, 0, Int.negSucc 0), (0, 86, Int.ofNat 0)])] (by dsimp only [cq_L_318, al_L_318])
set_option maxRecDepth 100000 in
theorem ah_L_319 : rf_ALT cq_L_319 := rf_alt_inf [(135, [], [(0, 91, Int.ofNat 0), (0, 91, Int.ofNat 0), (0, 100, Int.ofNat 0), (0, 94, Int.ofNat 0), (0, 86, Int.ofNat 0)]), (135, [], [(0, 91, Int.ofNat 0), (0, 91, Int.ofNat 0), (0, 96, Int.ofNat 0), (0, 95, Int.ofNat 0), (0, 87, Int.ofNat 0)]), (135, [], [(0, 89, Int.ofNat 0), (0, 89, Int.ofNat 0), (0, 101, Int.ofNat 0), (0, 0, Int.negSucc 0), (0, 86, Int.ofNat 0)])] (by dsimp only [cq_L_319, al_L_319])
set_option maxRecDepth 100000 in
theorem ah_L_320 : rf_ALT cq_L_320 := rf_alt_inf [(135, [], [(0, 91, Int.ofNat 0), (0, 91, Int.ofNat 0), (0, 100, Int.ofNat 0), (0, 94, Int.ofNat 0), (0, 86, Int.ofNat 0)])] (by dsimp only [cq_L_320, al_L_320])
set_option maxRecDepth 100000 in
theorem ah_L_321 : rf_ALT cq_L_321 := rf_alt_self rfl
set_option maxRecDepth 100000 in
theorem ah_L_322 : rf_ALT cq_L_322 := rf_alt_self rfl
set_option maxRecDepth 100000 in
theorem ah_L : ∀ cu ∈ cu_L, rf_ALT cu := (List.forall_mem_cons.mpr ⟨ah_L_0, (List.forall_mem_cons.mpr ⟨ah_L_1, (List.forall_mem_cons.mpr ⟨ah_L_2, (List.forall_mem_cons.mpr ⟨ah_L_3, (List.forall_mem_cons.mpr ⟨ah_L_4, (List.forall_mem_cons.mpr ⟨ah_L_5, (List.forall_mem_cons.mpr ⟨ah_L_6, (List.forall_mem_cons.mpr ⟨ah_L_7, (List.forall_mem_cons.mpr ⟨ah_L_8, (List.forall_mem_cons.mpr ⟨ah_L_9, (List.forall_mem_cons.mpr ⟨ah_L_10, (List.forall_mem_cons.mpr ⟨ah_L_11, (List.forall_mem_cons.mpr ⟨ah_L_12, (List.forall_mem_cons.mpr ⟨ah_L_13, (List.forall_mem_cons.mpr ⟨ah_L_14, (List.forall_mem_cons.mpr ⟨ah_L_15, (List.forall_mem_cons.mpr ⟨ah_L_16, (List.forall_mem_cons.mpr ⟨ah_L_17, (List.forall_mem_cons.mpr ⟨ah_L_18, (List.forall_mem_cons.mpr ⟨ah_L_19, (List.forall_mem_cons.mpr ⟨ah_L_20, (List.forall_mem_cons.mpr ⟨ah_L_21, (List.forall_mem_cons.mpr ⟨ah_L_22, (List.forall_mem_cons.mpr ⟨ah_L_23, (List.forall_mem_cons.mpr ⟨ah_L_24, (List.forall_mem_cons.mpr ⟨ah_L_25, (List.forall_mem_cons.mpr ⟨ah_L_26, (List.forall_mem_cons.mpr ⟨ah_L_27, (List.forall_mem_cons.mpr ⟨ah_L_28, (List.forall_mem_cons.mpr ⟨ah_L_29, (List.forall_mem_cons.mpr ⟨ah_L_30, (List.forall_mem_cons.mpr ⟨ah_L_31, (List.forall_mem_cons.mpr ⟨ah_L_32, (List.forall_mem_cons.mpr ⟨ah_L_33, (List.forall_mem_cons.mpr ⟨ah_L_34, (List.forall_mem_cons.mpr ⟨ah_L_35, (List.forall_mem_cons.mpr ⟨ah_L_36, (List.forall_mem_cons.mpr ⟨ah_L_37, (List.forall_mem_cons.mpr ⟨ah_L_38, (List.forall_mem_cons.mpr ⟨ah_L_39, (List.forall_mem_cons.mpr ⟨ah_L_40, (List.forall_mem_cons.mpr ⟨ah_L_41, (List.forall_mem_cons.mpr ⟨ah_L_42, (List.forall_mem_cons.mpr ⟨ah_L_43, (List.forall_mem_cons.mpr ⟨ah_L_44, (List.forall_mem_cons.mpr ⟨ah_L_45, (List.forall_mem_cons.mpr ⟨ah_L_46, (List.forall_mem_cons.mpr ⟨ah_L_47, (List.forall_mem_cons.mpr ⟨ah_L_48, (List.forall_mem_cons.mpr ⟨ah_L_49, (List.forall_mem_cons.mpr ⟨ah_L_50, (List.forall_mem_cons.mpr ⟨ah_L_51, (List.forall_mem_cons.mpr ⟨ah_L_52, (List.forall_mem_cons.mpr ⟨ah_L_53, (List.forall_mem_cons.mpr ⟨ah_L_54, (List.forall_mem_cons.mpr ⟨ah_L_55, (List.forall_mem_cons.mpr ⟨ah_L_56, (List.forall_mem_cons.mpr ⟨ah_L_57, (List.forall_mem_cons.mpr ⟨ah_L_58, (List.forall_mem_cons.mpr ⟨ah_L_59, (List.forall_mem_cons.mpr ⟨ah_L_60, (List.forall_mem_cons.mpr ⟨ah_L_61, (List.forall_mem_cons.mpr ⟨ah_L_62, (List.forall_mem_cons.mpr ⟨ah_L_63, (List.forall_mem_cons.mpr ⟨ah_L_64, (List.forall_mem_cons.mpr ⟨ah_L_65, (List.forall_mem_cons.mpr ⟨ah_L_66, (List.forall_mem_cons.mpr ⟨ah_L_67, (List.forall_mem_cons.mpr ⟨ah_L_68, (List.forall_mem_cons.mpr ⟨ah_L_69, (List.forall_mem_cons.mpr ⟨ah_L_70, (List.forall_mem_cons.mpr ⟨ah_L_71, (List.forall_mem_cons.mpr ⟨ah_L_72, (List.forall_mem_cons.mpr ⟨ah_L_73, (List.forall_mem_cons.mpr ⟨ah_L_74, (List.forall_mem_cons.mpr ⟨ah_L_75, (List.forall_mem_cons.mpr ⟨ah_L_76, (List.forall_mem_cons.mpr ⟨ah_L_77, (List.forall_mem_cons.mpr ⟨ah_L_78, (List.forall_mem_cons.mpr ⟨ah_L_79, (List.forall_mem_cons.mpr ⟨ah_L_80, (List.forall_mem_cons.mpr ⟨ah_L_81, (List.forall_mem_cons.mpr ⟨ah_L_82, (List.forall_mem_cons.mpr ⟨ah_L_83, (List.forall_mem_cons.mpr ⟨ah_L_84, (List.forall_mem_cons.mpr ⟨ah_L_85, (List.forall_mem_cons.mpr ⟨ah_L_86, (List.forall_mem_cons.mpr ⟨ah_L_87, (List.forall_mem_cons.mpr ⟨ah_L_88, (List.forall_mem_cons.mpr ⟨ah_L_89, (List.forall_mem_cons.mpr ⟨ah_L_90, (List.forall_mem_cons.mpr ⟨ah_L_91, (List.forall_mem_cons.mpr ⟨ah_L_92, (List.forall_mem_cons.mpr ⟨ah_L_93, (List.forall_mem_cons.mpr ⟨ah_L_94, (List.forall_mem_cons.mpr ⟨ah_L_95, (List.forall_mem_cons.mpr ⟨ah_L_96, (List.forall_mem_cons.mpr ⟨ah_L_97, (List.forall_mem_cons.mpr ⟨ah_L_98, (List.forall_mem_cons.mpr ⟨ah_L_99, (List.forall_mem_cons.mpr ⟨ah_L_100, (List.forall_mem_cons.mpr ⟨ah_L_101, (List.forall_mem_cons.mpr ⟨ah_L_102, (List.forall_mem_cons.mpr ⟨ah_L_103, (List.forall_mem_cons.mpr ⟨ah_L_104, (List.forall_mem_cons.mpr ⟨ah_L_105, (List.forall_mem_cons.mpr ⟨ah_L_106, (List.forall_mem_cons.mpr ⟨ah_L_107, (List.forall_mem_cons.mpr ⟨ah_L_108, (List.forall_mem_cons.mpr ⟨ah_L_109, (List.forall_mem_cons.mpr ⟨ah_L_110, (List.forall_mem_cons.mpr ⟨ah_L_111, (List.forall_mem_cons.mpr ⟨ah_L_112, (List.forall_mem_cons.mpr ⟨ah_L_113, (List.forall_mem_cons.mpr ⟨ah_L_114, (List.forall_mem_cons.mpr ⟨ah_L_115, (List.forall_mem_cons.mpr ⟨ah_L_116, (List.forall_mem_cons.mpr ⟨ah_L_117, (List.forall_mem_cons.mpr ⟨ah_L_118, (List.forall_mem_cons.mpr ⟨ah_L_119, (List.forall_mem_cons.mpr ⟨ah_L_120, (List.forall_mem_cons.mpr ⟨ah_L_121, (List.forall_mem_cons.mpr ⟨ah_L_122, (List.forall_mem_cons.mpr ⟨ah_L_123, (List.forall_mem_cons.mpr ⟨ah_L_124, (List.forall_mem_cons.mpr ⟨ah_L_125, (List.forall_mem_cons.mpr ⟨ah_L_126, (List.forall_mem_cons.mpr ⟨ah_L_127, (List.forall_mem_cons.mpr ⟨ah_L_128, (List.forall_mem_cons.mpr ⟨ah_L_129, (List.forall_mem_cons.mpr ⟨ah_L_130, (List.forall_mem_cons.mpr ⟨ah_L_131, (List.forall_mem_cons.mpr ⟨ah_L_132, (List.forall_mem_cons.mpr ⟨ah_L_133, (List.forall_mem_cons.mpr ⟨ah_L_134, (List.forall_mem_cons.mpr ⟨ah_L_135, (List.forall_mem_cons.mpr ⟨ah_L_136, (List.forall_mem_cons.mpr ⟨ah_L_137, (List.forall_mem_cons.mpr ⟨ah_L_138, (List.forall_mem_cons.mpr ⟨ah_L_139, (List.forall_mem_cons.mpr ⟨ah_L_140, (List.forall_mem_cons.mpr ⟨ah_L_141, (List.forall_mem_cons.mpr ⟨ah_L_142, (List.forall_mem_cons.mpr ⟨ah_L_143, (List.forall_mem_cons.mpr ⟨ah_L_144, (List.forall_mem_cons.mpr ⟨ah_L_145, (List.forall_mem_cons.mpr ⟨ah_L_146, (List.forall_mem_cons.mpr ⟨ah_L_147, (List.forall_mem_cons.mpr ⟨ah_L_148, (List.forall_mem_cons.mpr ⟨ah_L_149, (List.forall_mem_cons.mpr ⟨ah_L_150, (List.forall_mem_cons.mpr ⟨ah_L_151, (List.forall_mem_cons.mpr ⟨ah_L_152, (List.forall_mem_cons.mpr ⟨ah_L_153, (List.forall_mem_cons.mpr ⟨ah_L_154, (List.forall_mem_cons.mpr ⟨ah_L_155, (List.forall_mem_cons.mpr ⟨ah_L_156, (List.forall_mem_cons.mpr ⟨ah_L_157, (List.forall_mem_cons.mpr ⟨ah_L_158, (List.forall_mem_cons.mpr ⟨ah_L_159, (List.forall_mem_cons.mpr ⟨ah_L_160, (List.forall_mem_cons.mpr ⟨ah_L_161, (List.forall_mem_cons.mpr ⟨ah_L_162, (List.forall_mem_cons.mpr ⟨ah_L_163, (List.forall_mem_cons.mpr ⟨ah_L_164, (List.forall_mem_cons.mpr ⟨ah_L_165, (List.forall_mem_cons.mpr ⟨ah_L_166, (List.forall_mem_cons.mpr ⟨ah_L_167, (List.forall_mem_cons.mpr ⟨ah_L_168, (List.forall_mem_cons.mpr ⟨ah_L_169, (List.forall_mem_cons.mpr ⟨ah_L_170, (List.forall_mem_cons.mpr ⟨ah_L_171, (List.forall_mem_cons.mpr ⟨ah_L_172, (List.forall_mem_cons.mpr ⟨ah_L_173, (List.forall_mem_cons.mpr ⟨ah_L_174, (List.forall_mem_cons.mpr ⟨ah_L_175, (List.forall_mem_cons.mpr ⟨ah_L_176, (List.forall_mem_cons.mpr ⟨ah_L_177, (List.forall_mem_cons.mpr ⟨ah_L_178, (List.forall_mem_cons.mpr ⟨ah_L_179, (List.forall_mem_cons.mpr ⟨ah_L_180, (List.forall_mem_cons.mpr ⟨ah_L_181, (List.forall_mem_cons.mpr ⟨ah_L_182, (List.forall_mem_cons.mpr ⟨ah_L_183, (List.forall_mem_cons.mpr ⟨ah_L_184, (List.forall_mem_cons.mpr ⟨ah_L_185, (List.forall_mem_cons.mpr ⟨ah_L_186, (List.forall_mem_cons.mpr ⟨ah_L_187, (List.forall_mem_cons.mpr ⟨ah_L_188, (List.forall_mem_cons.mpr ⟨ah_L_189, (List.forall_mem_cons.mpr ⟨ah_L_190, (List.forall_mem_cons.mpr ⟨ah_L_191, (List.forall_mem_cons.mpr ⟨ah_L_192, (List.forall_mem_cons.mpr ⟨ah_L_193, (List.forall_mem_cons.mpr ⟨ah_L_194, (List.forall_mem_cons.mpr ⟨ah_L_195, (List.forall_mem_cons.mpr ⟨ah_L_196, (List.forall_mem_cons.mpr ⟨ah_L_197, (List.forall_mem_cons.mpr ⟨ah_L_198, (List.forall_mem_cons.mpr ⟨ah_L_199, (List.forall_mem_cons.mpr ⟨ah_L_200, (List.forall_mem_cons.mpr ⟨ah_L_201, (List.forall_mem_cons.mpr ⟨ah_L_202, (List.forall_mem_cons.mpr ⟨ah_L_203, (List.forall_mem_cons.mpr ⟨ah_L_204, (List.forall_mem_cons.mpr ⟨ah_L_205, (List.forall_mem_cons.mpr ⟨ah_L_206, (List.forall_mem_cons.mpr ⟨ah_L_207, (List.forall_mem_cons.mpr ⟨ah_L_208, (List.forall_mem_cons.mpr ⟨ah_L_209, (List.forall_mem_cons.mpr ⟨ah_L_210, (List.forall_mem_cons.mpr ⟨ah_L_211, (List.forall_mem_cons.mpr ⟨ah_L_212, (List.forall_mem_cons.mpr ⟨ah_L_213, (List.forall_mem_cons.mpr ⟨ah_L_214, (List.forall_mem_cons.mpr ⟨ah_L_215, (List.forall_mem_cons.mpr ⟨ah_L_216, (List.forall_mem_cons.mpr ⟨ah_L_217, (List.forall_mem_cons.mpr ⟨ah_L_218, (List.forall_mem_cons.mpr ⟨ah_L_219, (List.forall_mem_cons.mpr ⟨ah_L_220, (List.forall_mem_cons.mpr ⟨ah_L_221, (List.forall_mem_cons.mpr ⟨ah_L_222, (List.forall_mem_cons.mpr ⟨ah_L_223, (List.forall_mem_cons.mpr ⟨ah_L_224, (List.forall_mem_cons.mpr ⟨ah_L_225, (List.forall_mem_cons.mpr ⟨ah_L_226, (List.forall_mem_cons.mpr ⟨ah_L_227, (List.forall_mem_cons.mpr ⟨ah_L_228, (List.forall_mem_cons.mpr ⟨ah_L_229, (List.forall_mem_cons.mpr ⟨ah_L_230, (List.forall_mem_cons.mpr ⟨ah_L_231, (List.forall_mem_cons.mpr ⟨ah_L_232, (List.forall_mem_cons.mpr ⟨ah_L_233, (List.forall_mem_cons.mpr ⟨ah_L_234, (List.forall_mem_cons.mpr ⟨ah_L_235, (List.forall_mem_cons.mpr ⟨ah_L_236, (List.forall_mem_cons.mpr ⟨ah_L_237, (List.forall_mem_cons.mpr ⟨ah_L_238, (List.forall_mem_cons.mpr ⟨ah_L_239, (List.forall_mem_cons.mpr ⟨ah_L_240, (List.forall_mem_cons.mpr ⟨ah_L_241, (List.forall_mem_cons.mpr ⟨ah_L_242, (List.forall_mem_cons.mpr ⟨ah_L_243, (List.forall_mem_cons.mpr ⟨ah_L_244, (List.forall_mem_cons.mpr ⟨ah_L_245, (List.forall_mem_cons.mpr ⟨ah_L_246, (List.forall_mem_cons.mpr ⟨ah_L_247, (List.forall_mem_cons.mpr ⟨ah_L_248, (List.forall_mem_cons.mpr ⟨ah_L_249, (List.forall_mem_cons.mpr ⟨ah_L_250, (List.forall_mem_cons.mpr ⟨ah_L_251, (List.forall_mem_cons.mpr ⟨ah_L_252, (List.forall_mem_cons.mpr ⟨ah_L_253, (List.forall_mem_cons.mpr ⟨ah_L_254, (List.forall_mem_cons.mpr ⟨ah_L_255, (List.forall_mem_cons.mpr ⟨ah_L_256, (List.forall_mem_cons.mpr ⟨ah_L_257, (List.forall_mem_cons.mpr ⟨ah_L_258, (List.forall_mem_cons.mpr ⟨ah_L_259, (List.forall_mem_cons.mpr ⟨ah_L_260, (List.forall_mem_cons.mpr ⟨ah_L_261, (List.forall_mem_cons.mpr ⟨ah_L_262, (List.forall_mem_cons.mpr ⟨ah_L_263, (List.forall_mem_cons.mpr ⟨ah_L_264, (List.forall_mem_cons.mpr ⟨ah_L_265, (List.forall_mem_cons.mpr ⟨ah_L_266, (List.forall_mem_cons.mpr ⟨ah_L_267, (List.forall_mem_cons.mpr ⟨ah_L_268, (List.forall_mem_cons.mpr ⟨ah_L_269, (List.forall_mem_cons.mpr ⟨ah_L_270, (List.forall_mem_cons.mpr ⟨ah_L_271, (List.forall_mem_cons.mpr ⟨ah_L_272, (List.forall_mem_cons.mpr ⟨ah_L_273, (List.forall_mem_cons.mpr ⟨ah_L_274, (List.forall_mem_cons.mpr ⟨ah_L_275, (List.forall_mem_cons.mpr ⟨ah_L_276, (List.forall_mem_cons.mpr ⟨ah_L_277, (List.forall_mem_cons.mpr ⟨ah_L_278, (List.forall_mem_cons.mpr ⟨ah_L_279, (List.forall_mem_cons.mpr ⟨ah_L_280, (List.forall_mem_cons.mpr ⟨ah_L_281, (List.forall_mem_cons.mpr ⟨ah_L_282, (List.forall_mem_cons.mpr ⟨ah_L_283, (List.forall_mem_cons.mpr ⟨ah_L_284, (List.forall_mem_cons.mpr ⟨ah_L_285, (List.forall_mem_cons.mpr ⟨ah_L_286, (List.forall_mem_cons.mpr ⟨ah_L_287, (List.forall_mem_cons.mpr ⟨ah_L_288, (List.forall_mem_cons.mpr ⟨ah_L_289, (List.forall_mem_cons.mpr ⟨ah_L_290, (List.forall_mem_cons.mpr ⟨ah_L_291, (List.forall_mem_cons.mpr ⟨ah_L_292, (List.forall_mem_cons.mpr ⟨ah_L_293, (List.forall_mem_cons.mpr ⟨ah_L_294, (List.forall_mem_cons.mpr ⟨ah_L_295, (List.forall_mem_cons.mpr ⟨ah_L_296, (List.forall_mem_cons.mpr ⟨ah_L_297, (List.forall_mem_cons.mpr ⟨ah_L_298, (List.forall_mem_cons.mpr ⟨ah_L_299, (List.forall_mem_cons.mpr ⟨ah_L_300, (List.forall_mem_cons.mpr ⟨ah_L_301, (List.forall_mem_cons.mpr ⟨ah_L_302, (List.forall_mem_cons.mpr ⟨ah_L_303, (List.forall_mem_cons.mpr ⟨ah_L_304, (List.forall_mem_cons.mpr ⟨ah_L_305, (List.forall_mem_cons.mpr ⟨ah_L_306, (List.forall_mem_cons.mpr ⟨ah_L_307, (List.forall_mem_cons.mpr ⟨ah_L_308, (List.forall_mem_cons.mpr ⟨ah_L_309, (List.forall_mem_cons.mpr ⟨ah_L_310, (List.forall_mem_cons.mpr ⟨ah_L_311, (List.forall_mem_cons.mpr ⟨ah_L_312, (List.forall_mem_cons.mpr ⟨ah_L_313, (List.forall_mem_cons.mpr ⟨ah_L_314, (List.forall_mem_cons.mpr ⟨ah_L_315, (List.forall_mem_cons.mpr ⟨ah_L_316, (List.forall_mem_cons.mpr ⟨ah_L_317, (List.forall_mem_cons.mpr ⟨ah_L_318, (List.forall_mem_cons.mpr ⟨ah_L_319, (List.forall_mem_cons.mpr ⟨ah_L_320, (List.forall_mem_cons.mpr ⟨ah_L_321, (List.forall_mem_cons.mpr ⟨ah_L_322, (fun _ h => absurd h List.not_mem_nil)⟩)⟩)⟩)⟩)⟩)⟩)⟩)⟩)⟩)⟩)⟩)⟩)⟩)⟩)⟩)⟩)⟩)⟩)⟩)⟩)⟩)⟩)⟩)⟩)⟩)⟩)⟩)⟩)⟩)⟩)⟩)⟩)⟩)⟩)⟩)⟩)⟩)⟩)⟩)⟩)⟩)⟩)⟩)⟩)⟩)⟩)⟩)⟩)⟩)⟩)⟩)⟩)⟩)⟩)⟩)⟩)⟩)⟩)⟩)⟩)⟩)⟩)⟩)⟩)⟩)⟩)⟩)⟩)⟩)⟩)⟩)⟩)⟩)⟩)⟩)⟩)⟩)⟩)⟩)⟩)⟩)⟩)⟩)⟩)⟩)⟩)⟩)⟩)⟩)⟩)⟩)⟩)⟩)⟩)⟩)⟩)⟩)⟩)⟩)⟩)⟩)⟩)⟩)⟩)⟩)⟩)⟩)⟩)⟩)⟩)⟩)⟩)⟩)⟩)⟩)⟩)⟩)⟩)⟩)⟩)⟩)⟩)⟩)⟩)⟩)⟩)⟩)⟩)⟩)⟩)⟩)⟩)⟩)⟩)⟩)⟩)⟩)⟩)⟩)⟩)⟩)⟩)⟩)⟩)⟩)⟩)⟩)⟩)⟩)⟩)⟩)⟩)⟩)⟩)⟩)⟩)⟩)⟩)⟩)⟩)⟩)⟩)⟩)⟩)⟩)⟩)⟩)⟩)⟩)⟩)⟩)⟩)⟩)⟩)⟩)⟩)⟩)⟩)⟩)⟩)⟩)⟩)⟩)⟩)⟩)⟩)⟩)⟩)⟩)⟩)⟩)⟩)⟩)⟩)⟩)⟩)⟩)⟩)⟩)⟩)⟩)⟩)⟩)⟩)⟩)⟩)⟩)⟩)⟩)⟩)⟩)⟩)⟩)⟩)⟩)⟩)⟩)⟩)⟩)⟩)⟩)⟩)⟩)⟩)⟩)⟩)⟩)⟩)⟩)⟩)⟩)⟩)⟩)⟩)⟩)⟩)⟩)⟩)⟩)⟩)⟩)⟩)⟩)⟩)⟩)⟩)⟩)⟩)⟩)⟩)⟩)⟩)⟩)⟩)⟩)⟩)⟩)⟩)⟩)⟩)⟩)⟩)⟩)⟩)⟩)⟩)⟩)⟩)⟩)⟩)⟩)⟩)⟩)⟩)⟩)⟩)⟩)⟩)⟩)⟩)⟩)⟩)⟩)⟩)⟩)⟩)⟩)⟩)⟩)⟩)⟩)⟩)⟩)⟩)⟩)⟩)⟩)⟩)⟩)⟩)⟩)⟩)⟩)⟩)⟩)⟩)⟩)⟩)⟩)⟩)⟩)⟩)⟩)⟩)⟩)⟩)⟩)⟩)⟩)⟩)⟩)⟩)⟩)
theorem ck_L_d_0 : ∀ alt ∈ cq_L_0.2.2.2, rf_run nm_cl nm_ct en_xs 8 xx_L kc_L cu_L po_L (some .boolean) 1 0 98 16364 (some cq_L_0.2.2.1) 5000 true cq_L_0.1 alt = true := by
  have e1 : cq_L_0.2.2.2 = al_L_0 := by dsimp only [cq_L_0]
  have e2 : cq_L_0.2.2.1 = mu_L_0 := by dsimp only [cq_L_0]
  have e3 : cq_L_0.1 = 16 := by dsimp only [cq_L_0]
  rw [e1, e2, e3]
  exact rf_pcs (l := al_L_0) 1 ck_L_c_0 (List.isEmpty_iff.mp ck_L_n_0)
theorem ck_L_d_1 : ∀ alt ∈ cq_L_1.2.2.2, rf_run nm_cl nm_ct en_xs 8 xx_L kc_L cu_L po_L (some .boolean) 1 0 98 16364 (some cq_L_1.2.2.1) 5000 true cq_L_1.1 alt = true := by
  have e1 : cq_L_1.2.2.2 = al_L_1 := by dsimp only [cq_L_1]
  have e2 : cq_L_1.2.2.1 = mu_L_1 := by dsimp only [cq_L_1]
  have e3 : cq_L_1.1 = 18 := by dsimp only [cq_L_1]
  rw [e1, e2, e3]
  exact rf_pcs (l := al_L_1) 1 ck_L_c_1 (List.isEmpty_iff.mp ck_L_n_1)
theorem ck_L_d_2 : ∀ alt ∈ cq_L_2.2.2.2, rf_run nm_cl nm_ct en_xs 8 xx_L kc_L cu_L po_L (some .boolean) 1 0 98 16364 (some cq_L_2.2.2.1) 5000 true cq_L_2.1 alt = true := by
  have e1 : cq_L_2.2.2.2 = al_L_2 := by dsimp only [cq_L_2]
  have e2 : cq_L_2.2.2.1 = mu_L_2 := by dsimp only [cq_L_2]
  have e3 : cq_L_2.1 = 204 := by dsimp only [cq_L_2]
  rw [e1, e2, e3]
  exact rf_pcs (l := al_L_2) 1 ck_L_c_2 (List.isEmpty_iff.mp ck_L_n_2)
theorem ck_L_d_3 : ∀ alt ∈ cq_L_3.2.2.2, rf_run nm_cl nm_ct en_xs 8 xx_L kc_L cu_L po_L (some .boolean) 1 0 98 16364 (some cq_L_3.2.2.1) 5000 true cq_L_3.1 alt = true := by
  have e1 : cq_L_3.2.2.2 = al_L_3 := by dsimp only [cq_L_3]
  have e2 : cq_L_3.2.2.1 = mu_L_3 := by dsimp only [cq_L_3]
  have e3 : cq_L_3.1 = 237 := by dsimp only [cq_L_3]
  rw [e1, e2, e3]
  exact rf_pcs (l := al_L_3) 1 ck_L_c_3 (List.isEmpty_iff.mp ck_L_n_3)
theorem ck_L_d_4 : ∀ alt ∈ cq_L_4.2.2.2, rf_run nm_cl nm_ct en_xs 8 xx_L kc_L cu_L po_L (some .boolean) 1 0 98 16364 (some cq_L_4.2.2.1) 5000 true cq_L_4.1 alt = true := by
  have e1 : cq_L_4.2.2.2 = al_L_4 := by dsimp only [cq_L_4]
  have e2 : cq_L_4.2.2.1 = mu_L_4 := by dsimp only [cq_L_4]
  have e3 : cq_L_4.1 = 280 := by dsimp only [cq_L_4]
  rw [e1, e2, e3]
  exact rf_pcs (l := al_L_4) 1 ck_L_c_4 (List.isEmpty_iff.mp ck_L_n_4)
theorem ck_L_d_5 : ∀ alt ∈ cq_L_5.2.2.2, rf_run nm_cl nm_ct en_xs 8 xx_L kc_L cu_L po_L (some .boolean) 1 0 98 16364 (some cq_L_5.2.2.1) 5000 true cq_L_5.1 alt = true := by
  have e1 : cq_L_5.2.2.2 = al_L_5 := by dsimp only [cq_L_5]
  have e2 : cq_L_5.2.2.1 = mu_L_5 := by dsimp only [cq_L_5]
  have e3 : cq_L_5.1 = 323 := by dsimp only [cq_L_5]
  rw [e1, e2, e3]
  exact rf_pcs (l := al_L_5) 1 ck_L_c_5 (List.isEmpty_iff.mp ck_L_n_5)
theorem ck_L_d_6 : ∀ alt ∈ cq_L_6.2.2.2, rf_run nm_cl nm_ct en_xs 8 xx_L kc_L cu_L po_L (some .boolean) 1 0 98 16364 (some cq_L_6.2.2.1) 5000 true cq_L_6.1 alt = true := by
  have e1 : cq_L_6.2.2.2 = al_L_6 := by dsimp only [cq_L_6]
  have e2 : cq_L_6.2.2.1 = mu_L_6 := by dsimp only [cq_L_6]
  have e3 : cq_L_6.1 = 356 := by dsimp only [cq_L_6]
  rw [e1, e2, e3]
  exact rf_pcs (l := al_L_6) 1 ck_L_c_6 (List.isEmpty_iff.mp ck_L_n_6)
theorem ck_L_d_7 : ∀ alt ∈ cq_L_7.2.2.2, rf_run nm_cl nm_ct en_xs 8 xx_L kc_L cu_L po_L (some .boolean) 1 0 98 16364 (some cq_L_7.2.2.1) 5000 true cq_L_7.1 alt = true := by
  have e1 : cq_L_7.2.2.2 = al_L_7 := by dsimp only [cq_L_7]
  have e2 : cq_L_7.2.2.1 = mu_L_7 := by dsimp only [cq_L_7]
  have e3 : cq_L_7.1 = 379 := by dsimp only [cq_L_7]
  rw [e1, e2, e3]
  exact rf_pcs (l := al_L_7) 1 ck_L_c_7 (List.isEmpty_iff.mp ck_L_n_7)
theorem ck_L_d_8 : ∀ alt ∈ cq_L_8.2.2.2, rf_run nm_cl nm_ct en_xs 8 xx_L kc_L cu_L po_L (some .boolean) 1 0 98 16364 (some cq_L_8.2.2.1) 5000 true cq_L_8.1 alt = true := by
  have e1 : cq_L_8.2.2.2 = al_L_8 := by dsimp only [cq_L_8]
  have e2 : cq_L_8.2.2.1 = mu_L_8 := by dsimp only [cq_L_8]
  have e3 : cq_L_8.1 = 392 := by dsimp only [cq_L_8]
  rw [e1, e2, e3]
  exact rf_pcs (l := al_L_8) 1 ck_L_c_8 (List.isEmpty_iff.mp ck_L_n_8)
theorem ck_L_d_9 : ∀ alt ∈ cq_L_9.2.2.2, rf_run nm_cl nm_ct en_xs 8 xx_L kc_L cu_L po_L (some .boolean) 1 0 98 16364 (some cq_L_9.2.2.1) 5000 true cq_L_9.1 alt = true := by
  have e1 : cq_L_9.2.2.2 = al_L_9 := by dsimp only [cq_L_9]
  have e2 : cq_L_9.2.2.1 = mu_L_9 := by dsimp only [cq_L_9]
  have e3 : cq_L_9.1 = 435 := by dsimp only [cq_L_9]
  rw [e1, e2, e3]
  exact rf_pcs (l := al_L_9) 1 ck_L_c_9 (List.isEmpty_iff.mp ck_L_n_9)
theorem ck_L_d_10 : ∀ alt ∈ cq_L_10.2.2.2, rf_run nm_cl nm_ct en_xs 8 xx_L kc_L cu_L po_L (some .boolean) 1 0 98 16364 (some cq_L_10.2.2.1) 5000 true cq_L_10.1 alt = true := by
  have e1 : cq_L_10.2.2.2 = al_L_10 := by dsimp only [cq_L_10]
  have e2 : cq_L_10.2.2.1 = mu_L_10 := by dsimp only [cq_L_10]
  have e3 : cq_L_10.1 = 468 := by dsimp only [cq_L_10]
  rw [e1, e2, e3]
  exact rf_pcs (l := al_L_10) 1 ck_L_c_10 (List.isEmpty_iff.mp ck_L_n_10)
theorem ck_L_d_11 : ∀ alt ∈ cq_L_11.2.2.2, rf_run nm_cl nm_ct en_xs 8 xx_L kc_L cu_L po_L (some .boolean) 1 0 98 16364 (some cq_L_11.2.2.1) 5000 true cq_L_11.1 alt = true := by
  have e1 : cq_L_11.2.2.2 = al_L_11 := by dsimp only [cq_L_11]
  have e2 : cq_L_11.2.2.1 = mu_L_11 := by dsimp only [cq_L_11]
  have e3 : cq_L_11.1 = 511 := by dsimp only [cq_L_11]
  rw [e1, e2, e3]
  exact rf_pcs (l := al_L_11) 1 ck_L_c_11 (List.isEmpty_iff.mp ck_L_n_11)
theorem ck_L_d_12 : ∀ alt ∈ cq_L_12.2.2.2, rf_run nm_cl nm_ct en_xs 8 xx_L kc_L cu_L po_L (some .boolean) 1 0 98 16364 (some cq_L_12.2.2.1) 5000 true cq_L_12.1 alt = true := by
  have e1 : cq_L_12.2.2.2 = al_L_12 := by dsimp only [cq_L_12]
  have e2 : cq_L_12.2.2.1 = mu_L_12 := by dsimp only [cq_L_12]
  have e3 : cq_L_12.1 = 534 := by dsimp only [cq_L_12]
  rw [e1, e2, e3]
  exact rf_pcs (l := al_L_12) 1 ck_L_c_12 (List.isEmpty_iff.mp ck_L_n_12)
theorem ck_L_d_13 : ∀ alt ∈ cq_L_13.2.2.2, rf_run nm_cl nm_ct en_xs 8 xx_L kc_L cu_L po_L (some .boolean) 1 0 98 16364 (some cq_L_13.2.2.1) 5000 true cq_L_13.1 alt = true := by
  have e1 : cq_L_13.2.2.2 = al_L_13 := by dsimp only [cq_L_13]
  have e2 : cq_L_13.2.2.1 = mu_L_13 := by dsimp only [cq_L_13]
  have e3 : cq_L_13.1 = 567 := by dsimp only [cq_L_13]
  rw [e1, e2, e3]
  exact rf_pcs (l := al_L_13) 1 ck_L_c_13 (List.isEmpty_iff.mp ck_L_n_13)
theorem ck_L_d_14 : ∀ alt ∈ cq_L_14.2.2.2, rf_run nm_cl nm_ct en_xs 8 xx_L kc_L cu_L po_L (some .boolean) 1 0 98 16364 (some cq_L_14.2.2.1) 5000 true cq_L_14.1 alt = true := by
  have e1 : cq_L_14.2.2.2 = al_L_14 := by dsimp only [cq_L_14]
  have e2 : cq_L_14.2.2.1 = mu_L_14 := by dsimp only [cq_L_14]
  have e3 : cq_L_14.1 = 610 := by dsimp only [cq_L_14]
  rw [e1, e2, e3]
  exact rf_pcs (l := al_L_14) 1 ck_L_c_14 (List.isEmpty_iff.mp ck_L_n_14)
theorem ck_L_d_15 : ∀ alt ∈ cq_L_15.2.2.2, rf_run nm_cl nm_ct en_xs 8 xx_L kc_L cu_L po_L (some .boolean) 1 0 98 16364 (some cq_L_15.2.2.1) 5000 true cq_L_15.1 alt = true := by
  have e1 : cq_L_15.2.2.2 = al_L_15 := by dsimp only [cq_L_15]
  have e2 : cq_L_15.2.2.1 = mu_L_15 := by dsimp only [cq_L_15]
  have e3 : cq_L_15.1 = 643 := by dsimp only [cq_L_15]
  rw [e1, e2, e3]
  exact rf_pcs (l := al_L_15) 1 ck_L_c_15 (List.isEmpty_iff.mp ck_L_n_15)
theorem ck_L_d_16 : ∀ alt ∈ cq_L_16.2.2.2, rf_run nm_cl nm_ct en_xs 8 xx_L kc_L cu_L po_L (some .boolean) 1 0 98 16364 (some cq_L_16.2.2.1) 5000 true cq_L_16.1 alt = true := by
  have e1 : cq_L_16.2.2.2 = al_L_16 := by dsimp only [cq_L_16]
  have e2 : cq_L_16.2.2.1 = mu_L_16 := by dsimp only [cq_L_16]
  have e3 : cq_L_16.1 = 676 := by dsimp only [cq_L_16]
  rw [e1, e2, e3]
  exact rf_pcs (l := al_L_16) 1 ck_L_c_16 (List.isEmpty_iff.mp ck_L_n_16)
theorem ck_L_d_17 : ∀ alt ∈ cq_L_17.2.2.2, rf_run nm_cl nm_ct en_xs 8 xx_L kc_L cu_L po_L (some .boolean) 1 0 98 16364 (some cq_L_17.2.2.1) 5000 true cq_L_17.1 alt = true := by
  have e1 : cq_L_17.2.2.2 = al_L_17 := by dsimp only [cq_L_17]
  have e2 : cq_L_17.2.2.1 = mu_L_17 := by dsimp only [cq_L_17]
  have e3 : cq_L_17.1 = 709 := by dsimp only [cq_L_17]
  rw [e1, e2, e3]
  exact rf_pcs (l := al_L_17) 1 ck_L_c_17 (List.isEmpty_iff.mp ck_L_n_17)
theorem ck_L_d_18 : ∀ alt ∈ cq_L_18.2.2.2, rf_run nm_cl nm_ct en_xs 8 xx_L kc_L cu_L po_L (some .boolean) 1 0 98 16364 (some cq_L_18.2.2.1) 5000 true cq_L_18.1 alt = true := by
  have e1 : cq_L_18.2.2.2 = al_L_18 := by dsimp only [cq_L_18]
  have e2 : cq_L_18.2.2.1 = mu_L_18 := by dsimp only [cq_L_18]
  have e3 : cq_L_18.1 = 742 := by dsimp only [cq_L_18]
  rw [e1, e2, e3]
  exact rf_pcs (l := al_L_18) 1 ck_L_c_18 (List.isEmpty_iff.mp ck_L_n_18)
theorem ck_L_d_19 : ∀ alt ∈ cq_L_19.2.2.2, rf_run nm_cl nm_ct en_xs 8 xx_L kc_L cu_L po_L (some .boolean) 1 0 98 16364 (some cq_L_19.2.2.1) 5000 true cq_L_19.1 alt = true := by
  have e1 : cq_L_19.2.2.2 = al_L_19 := by dsimp only [cq_L_19]
  have e2 : cq_L_19.2.2.1 = mu_L_19 := by dsimp only [cq_L_19]
  have e3 : cq_L_19.1 = 785 := by dsimp only [cq_L_19]
  rw [e1, e2, e3]
  exact rf_pcs (l := al_L_19) 1 ck_L_c_19 (List.isEmpty_iff.mp ck_L_n_19)
theorem ck_L_d_20 : ∀ alt ∈ cq_L_20.2.2.2, rf_run nm_cl nm_ct en_xs 8 xx_L kc_L cu_L po_L (some .boolean) 1 0 98 16364 (some cq_L_20.2.2.1) 5000 true cq_L_20.1 alt = true := by
  have e1 : cq_L_20.2.2.2 = al_L_20 := by dsimp only [cq_L_20]
  have e2 : cq_L_20.2.2.1 = mu_L_20 := by dsimp only [cq_L_20]
  have e3 : cq_L_20.1 = 818 := by dsimp only [cq_L_20]
  rw [e1, e2, e3]
  exact rf_pcs (l := al_L_20) 1 ck_L_c_20 (List.isEmpty_iff.mp ck_L_n_20)
theorem ck_L_d_21 : ∀ alt ∈ cq_L_21.2.2.2, rf_run nm_cl nm_ct en_xs 8 xx_L kc_L cu_L po_L (some .boolean) 1 0 98 16364 (some cq_L_21.2.2.1) 5000 true cq_L_21.1 alt = true := by
  have e1 : cq_L_21.2.2.2 = al_L_21 := by dsimp only [cq_L_21]
  have e2 : cq_L_21.2.2.1 = mu_L_21 := by dsimp only [cq_L_21]
  have e3 : cq_L_21.1 = 851 := by dsimp only [cq_L_21]
  rw [e1, e2, e3]
  exact rf_pcs (l := al_L_21) 1 ck_L_c_21 (List.isEmpty_iff.mp ck_L_n_21)
theorem ck_L_d_22 : ∀ alt ∈ cq_L_22.2.2.2, rf_run nm_cl nm_ct en_xs 8 xx_L kc_L cu_L po_L (some .boolean) 1 0 98 16364 (some cq_L_22.2.2.1) 5000 true cq_L_22.1 alt = true := by
  have e1 : cq_L_22.2.2.2 = al_L_22 := by dsimp only [cq_L_22]
  have e2 : cq_L_22.2.2.1 = mu_L_22 := by dsimp only [cq_L_22]
  have e3 : cq_L_22.1 = 894 := by dsimp only [cq_L_22]
  rw [e1, e2, e3]
  exact rf_pcs (l := al_L_22) 1 ck_L_c_22 (List.isEmpty_iff.mp ck_L_n_22)
theorem ck_L_d_23 : ∀ alt ∈ cq_L_23.2.2.2, rf_run nm_cl nm_ct en_xs 8 xx_L kc_L cu_L po_L (some .boolean) 1 0 98 16364 (some cq_L_23.2.2.1) 5000 true cq_L_23.1 alt = true := by
  have e1 : cq_L_23.2.2.2 = al_L_23 := by dsimp only [cq_L_23]
  have e2 : cq_L_23.2.2.1 = mu_L_23 := by dsimp only [cq_L_23]
  have e3 : cq_L_23.1 = 937 := by dsimp only [cq_L_23]
  rw [e1, e2, e3]
  exact rf_pcs (l := al_L_23) 1 ck_L_c_23 (List.isEmpty_iff.mp ck_L_n_23)
theorem ck_L_d_24 : ∀ alt ∈ cq_L_24.2.2.2, rf_run nm_cl nm_ct en_xs 8 xx_L kc_L cu_L po_L (some .boolean) 1 0 98 16364 (some cq_L_24.2.2.1) 5000 true cq_L_24.1 alt = true := by
  have e1 : cq_L_24.2.2.2 = al_L_24 := by dsimp only [cq_L_24]
  have e2 : cq_L_24.2.2.1 = mu_L_24 := by dsimp only [cq_L_24]
  have e3 : cq_L_24.1 = 960 := by dsimp only [cq_L_24]
  rw [e1, e2, e3]
  exact rf_pcs (l := al_L_24) 1 ck_L_c_24 (List.isEmpty_iff.mp ck_L_n_24)
theorem ck_L_d_25 : ∀ alt ∈ cq_L_25.2.2.2, rf_run nm_cl nm_ct en_xs 8 xx_L kc_L cu_L po_L (some .boolean) 1 0 98 16364 (some cq_L_25.2.2.1) 5000 true cq_L_25.1 alt = true := by
  have e1 : cq_L_25.2.2.2 = al_L_25 := by dsimp only [cq_L_25]
  have e2 : cq_L_25.2.2.1 = mu_L_25 := by dsimp only [cq_L_25]
  have e3 : cq_L_25.1 = 993 := by dsimp only [cq_L_25]
  rw [e1, e2, e3]
  exact rf_pcs (l := al_L_25) 1 ck_L_c_25 (List.isEmpty_iff.mp ck_L_n_25)
theorem ck_L_d_26 : ∀ alt ∈ cq_L_26.2.2.2, rf_run nm_cl nm_ct en_xs 8 xx_L kc_L cu_L po_L (some .boolean) 1 0 98 16364 (some cq_L_26.2.2.1) 5000 true cq_L_26.1 alt = true := by
  have e1 : cq_L_26.2.2.2 = al_L_26 := by dsimp only [cq_L_26]
  have e2 : cq_L_26.2.2.1 = mu_L_26 := by dsimp only [cq_L_26]
  have e3 : cq_L_26.1 = 1016 := by dsimp only [cq_L_26]
  rw [e1, e2, e3]
  exact rf_pcs (l := al_L_26) 1 ck_L_c_26 (List.isEmpty_iff.mp ck_L_n_26)
theorem ck_L_d_27 : ∀ alt ∈ cq_L_27.2.2.2, rf_run nm_cl nm_ct en_xs 8 xx_L kc_L cu_L po_L (some .boolean) 1 0 98 16364 (some cq_L_27.2.2.1) 5000 true cq_L_27.1 alt = true := by
  have e1 : cq_L_27.2.2.2 = al_L_27 := by dsimp only [cq_L_27]
  have e2 : cq_L_27.2.2.1 = mu_L_27 := by dsimp only [cq_L_27]
  have e3 : cq_L_27.1 = 1039 := by dsimp only [cq_L_27]
  rw [e1, e2, e3]
  exact rf_pcs (l := al_L_27) 1 ck_L_c_27 (List.isEmpty_iff.mp ck_L_n_27)
theorem ck_L_d_28 : ∀ alt ∈ cq_L_28.2.2.2, rf_run nm_cl nm_ct en_xs 8 xx_L kc_L cu_L po_L (some .boolean) 1 0 98 16364 (some cq_L_28.2.2.1) 5000 true cq_L_28.1 alt = true := by
  have e1 : cq_L_28.2.2.2 = al_L_28 := by dsimp only [cq_L_28]
  have e2 : cq_L_28.2.2.1 = mu_L_28 := by dsimp only [cq_L_28]
  have e3 : cq_L_28.1 = 1052 := by dsimp only [cq_L_28]
  rw [e1, e2, e3]
  exact rf_pcs (l := al_L_28) 1 ck_L_c_28 (List.isEmpty_iff.mp ck_L_n_28)
theorem ck_L_d_29 : ∀ alt ∈ cq_L_29.2.2.2, rf_run nm_cl nm_ct en_xs 8 xx_L kc_L cu_L po_L (some .boolean) 1 0 98 16364 (some cq_L_29.2.2.1) 5000 true cq_L_29.1 alt = true := by
  have e1 : cq_L_29.2.2.2 = al_L_29 := by dsimp only [cq_L_29]
  have e2 : cq_L_29.2.2.1 = mu_L_29 := by dsimp only [cq_L_29]
  have e3 : cq_L_29.1 = 1065 := by dsimp only [cq_L_29]
  rw [e1, e2, e3]
  exact rf_pcs (l := al_L_29) 1 ck_L_c_29 (List.isEmpty_iff.mp ck_L_n_29)
theorem ck_L_d_30 : ∀ alt ∈ cq_L_30.2.2.2, rf_run nm_cl nm_ct en_xs 8 xx_L kc_L cu_L po_L (some .boolean) 1 0 98 16364 (some cq_L_30.2.2.1) 5000 true cq_L_30.1 alt = true := by
  have e1 : cq_L_30.2.2.2 = al_L_30 := by dsimp only [cq_L_30]
  have e2 : cq_L_30.2.2.1 = mu_L_30 := by dsimp only [cq_L_30]
  have e3 : cq_L_30.1 = 1078 := by dsimp only [cq_L_30]
  rw [e1, e2, e3]
  exact rf_pcs (l := al_L_30) 1 ck_L_c_30 (List.isEmpty_iff.mp ck_L_n_30)
theorem ck_L_d_31 : ∀ alt ∈ cq_L_31.2.2.2, rf_run nm_cl nm_ct en_xs 8 xx_L kc_L cu_L po_L (some .boolean) 1 0 98 16364 (some cq_L_31.2.2.1) 5000 true cq_L_31.1 alt = true := by
  have e1 : cq_L_31.2.2.2 = al_L_31 := by dsimp only [cq_L_31]
  have e2 : cq_L_31.2.2.1 = mu_L_31 := by dsimp only [cq_L_31]
  have e3 : cq_L_31.1 = 1091 := by dsimp only [cq_L_31]
  rw [e1, e2, e3]
  exact rf_pcs (l := al_L_31) 1 ck_L_c_31 (List.isEmpty_iff.mp ck_L_n_31)
theorem ck_L_d_32 : ∀ alt ∈ cq_L_32.2.2.2, rf_run nm_cl nm_ct en_xs 8 xx_L kc_L cu_L po_L (some .boolean) 1 0 98 16364 (some cq_L_32.2.2.1) 5000 true cq_L_32.1 alt = true := by
  have e1 : cq_L_32.2.2.2 = al_L_32 := by dsimp only [cq_L_32]
  have e2 : cq_L_32.2.2.1 = mu_L_32 := by dsimp only [cq_L_32]
  have e3 : cq_L_32.1 = 1114 := by dsimp only [cq_L_32]
  rw [e1, e2, e3]
  exact rf_pcs (l := al_L_32) 1 ck_L_c_32 (List.isEmpty_iff.mp ck_L_n_32)
theorem ck_L_d_33 : ∀ alt ∈ cq_L_33.2.2.2, rf_run nm_cl nm_ct en_xs 8 xx_L kc_L cu_L po_L (some .boolean) 1 0 98 16364 (some cq_L_33.2.2.1) 5000 true cq_L_33.1 alt = true := by
  have e1 : cq_L_33.2.2.2 = al_L_33 := by dsimp only [cq_L_33]
  have e2 : cq_L_33.2.2.1 = mu_L_33 := by dsimp only [cq_L_33]
  have e3 : cq_L_33.1 = 1157 := by dsimp only [cq_L_33]
  rw [e1, e2, e3]
  exact rf_pcs (l := al_L_33) 1 ck_L_c_33 (List.isEmpty_iff.mp ck_L_n_33)
theorem ck_L_d_34 : ∀ alt ∈ cq_L_34.2.2.2, rf_run nm_cl nm_ct en_xs 8 xx_L kc_L cu_L po_L (some .boolean) 1 0 98 16364 (some cq_L_34.2.2.1) 5000 true cq_L_34.1 alt = true := by
  have e1 : cq_L_34.2.2.2 = al_L_34 := by dsimp only [cq_L_34]
  have e2 : cq_L_34.2.2.1 = mu_L_34 := by dsimp only [cq_L_34]
  have e3 : cq_L_34.1 = 1180 := by dsimp only [cq_L_34]
  rw [e1, e2, e3]
  exact rf_pcs (l := al_L_34) 1 ck_L_c_34 (List.isEmpty_iff.mp ck_L_n_34)
theorem ck_L_d_35 : ∀ alt ∈ cq_L_35.2.2.2, rf_run nm_cl nm_ct en_xs 8 xx_L kc_L cu_L po_L (some .boolean) 1 0 98 16364 (some cq_L_35.2.2.1) 5000 true cq_L_35.1 alt = true := by
  have e1 : cq_L_35.2.2.2 = al_L_35 := by dsimp only [cq_L_35]
  have e2 : cq_L_35.2.2.1 = mu_L_35 := by dsimp only [cq_L_35]
  have e3 : cq_L_35.1 = 1191 := by dsimp only [cq_L_35]
  rw [e1, e2, e3]
  exact rf_pcs (l := al_L_35) 8 ck_L_c_35 (List.isEmpty_iff.mp ck_L_n_35)
theorem ck_L_d_36 : ∀ alt ∈ cq_L_36.2.2.2, rf_run nm_cl nm_ct en_xs 8 xx_L kc_L cu_L po_L (some .boolean) 1 0 98 16364 (some cq_L_36.2.2.1) 5000 true cq_L_36.1 alt = true := by
  have e1 : cq_L_36.2.2.2 = al_L_36 := by dsimp only [cq_L_36]
  have e2 : cq_L_36.2.2.1 = mu_L_36 := by dsimp only [cq_L_36]
  have e3 : cq_L_36.1 = 1194 := by dsimp only [cq_L_36]
  rw [e1, e2, e3]
  exact rf_pcs (l := al_L_36) 1 ck_L_c_36 (List.isEmpty_iff.mp ck_L_n_36)
theorem ck_L_d_37 : ∀ alt ∈ cq_L_37.2.2.2, rf_run nm_cl nm_ct en_xs 8 xx_L kc_L cu_L po_L (some .boolean) 1 0 98 16364 (some cq_L_37.2.2.1) 5000 true cq_L_37.1 alt = true := by
  have e1 : cq_L_37.2.2.2 = al_L_37 := by dsimp only [cq_L_37]
  have e2 : cq_L_37.2.2.1 = mu_L_37 := by dsimp only [cq_L_37]
  have e3 : cq_L_37.1 = 1194 := by dsimp only [cq_L_37]
  rw [e1, e2, e3]
  exact rf_pcs (l := al_L_37) 1 ck_L_c_37 (List.isEmpty_iff.mp ck_L_n_37)
theorem ck_L_d_38 : ∀ alt ∈ cq_L_38.2.2.2, rf_run nm_cl nm_ct en_xs 8 xx_L kc_L cu_L po_L (some .boolean) 1 0 98 16364 (some cq_L_38.2.2.1) 5000 true cq_L_38.1 alt = true := by
  have e1 : cq_L_38.2.2.2 = al_L_38 := by dsimp only [cq_L_38]
  have e2 : cq_L_38.2.2.1 = mu_L_38 := by dsimp only [cq_L_38]
  have e3 : cq_L_38.1 = 1194 := by dsimp only [cq_L_38]
  rw [e1, e2, e3]
  exact rf_pcs (l := al_L_38) 1 ck_L_c_38 (List.isEmpty_iff.mp ck_L_n_38)
theorem ck_L_d_39 : ∀ alt ∈ cq_L_39.2.2.2, rf_run nm_cl nm_ct en_xs 8 xx_L kc_L cu_L po_L (some .boolean) 1 0 98 16364 (some cq_L_39.2.2.1) 5000 true cq_L_39.1 alt = true := by
  have e1 : cq_L_39.2.2.2 = al_L_39 := by dsimp only [cq_L_39]
  have e2 : cq_L_39.2.2.1 = mu_L_39 := by dsimp only [cq_L_39]
  have e3 : cq_L_39.1 = 1194 := by dsimp only [cq_L_39]
  rw [e1, e2, e3]
  exact rf_pcs (l := al_L_39) 1 ck_L_c_39 (List.isEmpty_iff.mp ck_L_n_39)
theorem ck_L_d_40 : ∀ alt ∈ cq_L_40.2.2.2, rf_run nm_cl nm_ct en_xs 8 xx_L kc_L cu_L po_L (some .boolean) 1 0 98 16364 (some cq_L_40.2.2.1) 5000 true cq_L_40.1 alt = true := by
  have e1 : cq_L_40.2.2.2 = al_L_40 := by dsimp only [cq_L_40]
  have e2 : cq_L_40.2.2.1 = mu_L_40 := by dsimp only [cq_L_40]
  have e3 : cq_L_40.1 = 1194 := by dsimp only [cq_L_40]
  rw [e1, e2, e3]
  exact rf_pcs (l := al_L_40) 1 ck_L_c_40 (List.isEmpty_iff.mp ck_L_n_40)
theorem ck_L_d_41 : ∀ alt ∈ cq_L_41.2.2.2, rf_run nm_cl nm_ct en_xs 8 xx_L kc_L cu_L po_L (some .boolean) 1 0 98 16364 (some cq_L_41.2.2.1) 5000 true cq_L_41.1 alt = true := by
  have e1 : cq_L_41.2.2.2 = al_L_41 := by dsimp only [cq_L_41]
  have e2 : cq_L_41.2.2.1 = mu_L_41 := by dsimp only [cq_L_41]
  have e3 : cq_L_41.1 = 1194 := by dsimp only [cq_L_41]
  rw [e1, e2, e3]
  exact rf_pcs (l := al_L_41) 1 ck_L_c_41 (List.isEmpty_iff.mp ck_L_n_41)
theorem ck_L_d_42 : ∀ alt ∈ cq_L_42.2.2.2, rf_run nm_cl nm_ct en_xs 8 xx_L kc_L cu_L po_L (some .boolean) 1 0 98 16364 (some cq_L_42.2.2.1) 5000 true cq_L_42.1 alt = true := by
  have e1 : cq_L_42.2.2.2 = al_L_42 := by dsimp only [cq_L_42]
  have e2 : cq_L_42.2.2.1 = mu_L_42 := by dsimp only [cq_L_42]
  have e3 : cq_L_42.1 = 1194 := by dsimp only [cq_L_42]
  rw [e1, e2, e3]
  exact rf_pcs (l := al_L_42) 1 ck_L_c_42 (List.isEmpty_iff.mp ck_L_n_42)
theorem ck_L_d_43 : ∀ alt ∈ cq_L_43.2.2.2, rf_run nm_cl nm_ct en_xs 8 xx_L kc_L cu_L po_L (some .boolean) 1 0 98 16364 (some cq_L_43.2.2.1) 5000 true cq_L_43.1 alt = true := by
  have e1 : cq_L_43.2.2.2 = al_L_43 := by dsimp only [cq_L_43]
  have e2 : cq_L_43.2.2.1 = mu_L_43 := by dsimp only [cq_L_43]
  have e3 : cq_L_43.1 = 1194 := by dsimp only [cq_L_43]
  rw [e1, e2, e3]
  exact rf_pcs (l := al_L_43) 1 ck_L_c_43 (List.isEmpty_iff.mp ck_L_n_43)
theorem ck_L_d_44 : ∀ alt ∈ cq_L_44.2.2.2, rf_run nm_cl nm_ct en_xs 8 xx_L kc_L cu_L po_L (some .boolean) 1 0 98 16364 (some cq_L_44.2.2.1) 5000 true cq_L_44.1 alt = true := by
  have e1 : cq_L_44.2.2.2 = al_L_44 := by dsimp only [cq_L_44]
  have e2 : cq_L_44.2.2.1 = mu_L_44 := by dsimp only [cq_L_44]
  have e3 : cq_L_44.1 = 1194 := by dsimp only [cq_L_44]
  rw [e1, e2, e3]
  exact rf_pcs (l := al_L_44) 1 ck_L_c_44 (List.isEmpty_iff.mp ck_L_n_44)
theorem ck_L_d_45 : ∀ alt ∈ cq_L_45.2.2.2, rf_run nm_cl nm_ct en_xs 8 xx_L kc_L cu_L po_L (some .boolean) 1 0 98 16364 (some cq_L_45.2.2.1) 5000 true cq_L_45.1 alt = true := by
  have e1 : cq_L_45.2.2.2 = al_L_45 := by dsimp only [cq_L_45]
  have e2 : cq_L_45.2.2.1 = mu_L_45 := by dsimp only [cq_L_45]
  have e3 : cq_L_45.1 = 1194 := by dsimp only [cq_L_45]
  rw [e1, e2, e3]
  exact rf_pcs (l := al_L_45) 1 ck_L_c_45 (List.isEmpty_iff.mp ck_L_n_45)
theorem ck_L_d_46 : ∀ alt ∈ cq_L_46.2.2.2, rf_run nm_cl nm_ct en_xs 8 xx_L kc_L cu_L po_L (some .boolean) 1 0 98 16364 (some cq_L_46.2.2.1) 5000 true cq_L_46.1 alt = true := by
  have e1 : cq_L_46.2.2.2 = al_L_46 := by dsimp only [cq_L_46]
  have e2 : cq_L_46.2.2.1 = mu_L_46 := by dsimp only [cq_L_46]
  have e3 : cq_L_46.1 = 1194 := by dsimp only [cq_L_46]
  rw [e1, e2, e3]
  exact rf_pcs (l := al_L_46) 1 ck_L_c_46 (List.isEmpty_iff.mp ck_L_n_46)
theorem ck_L_d_47 : ∀ alt ∈ cq_L_47.2.2.2, rf_run nm_cl nm_ct en_xs 8 xx_L kc_L cu_L po_L (some .boolean) 1 0 98 16364 (some cq_L_47.2.2.1) 5000 true cq_L_47.1 alt = true := by
  have e1 : cq_L_47.2.2.2 = al_L_47 := by dsimp only [cq_L_47]
  have e2 : cq_L_47.2.2.1 = mu_L_47 := by dsimp only [cq_L_47]
  have e3 : cq_L_47.1 = 1194 := by dsimp only [cq_L_47]
  rw [e1, e2, e3]
  exact rf_pcs (l := al_L_47) 1 ck_L_c_47 (List.isEmpty_iff.mp ck_L_n_47)
theorem ck_L_d_48 : ∀ alt ∈ cq_L_48.2.2.2, rf_run nm_cl nm_ct en_xs 8 xx_L kc_L cu_L po_L (some .boolean) 1 0 98 16364 (some cq_L_48.2.2.1) 5000 true cq_L_48.1 alt = true := by
  have e1 : cq_L_48.2.2.2 = al_L_48 := by dsimp only [cq_L_48]
  have e2 : cq_L_48.2.2.1 = mu_L_48 := by dsimp only [cq_L_48]
  have e3 : cq_L_48.1 = 1194 := by dsimp only [cq_L_48]
  rw [e1, e2, e3]
  exact rf_pcs (l := al_L_48) 1 ck_L_c_48 (List.isEmpty_iff.mp ck_L_n_48)
theorem ck_L_d_49 : ∀ alt ∈ cq_L_49.2.2.2, rf_run nm_cl nm_ct en_xs 8 xx_L kc_L cu_L po_L (some .boolean) 1 0 98 16364 (some cq_L_49.2.2.1) 5000 true cq_L_49.1 alt = true := by
  have e1 : cq_L_49.2.2.2 = al_L_49 := by dsimp only [cq_L_49]
  have e2 : cq_L_49.2.2.1 = mu_L_49 := by dsimp only [cq_L_49]
  have e3 : cq_L_49.1 = 1194 := by dsimp only [cq_L_49]
  rw [e1, e2, e3]
  exact rf_pcs (l := al_L_49) 1 ck_L_c_49 (List.isEmpty_iff.mp ck_L_n_49)
theorem ck_L_d_50 : ∀ alt ∈ cq_L_50.2.2.2, rf_run nm_cl nm_ct en_xs 8 xx_L kc_L cu_L po_L (some .boolean) 1 0 98 16364 (some cq_L_50.2.2.1) 5000 true cq_L_50.1 alt = true := by
  have e1 : cq_L_50.2.2.2 = al_L_50 := by dsimp only [cq_L_50]
  have e2 : cq_L_50.2.2.1 = mu_L_50 := by dsimp only [cq_L_50]
  have e3 : cq_L_50.1 = 1194 := by dsimp only [cq_L_50]
  rw [e1, e2, e3]
  exact rf_pcs (l := al_L_50) 1 ck_L_c_50 (List.isEmpty_iff.mp ck_L_n_50)
theorem ck_L_d_51 : ∀ alt ∈ cq_L_51.2.2.2, rf_run nm_cl nm_ct en_xs 8 xx_L kc_L cu_L po_L (some .boolean) 1 0 98 16364 (some cq_L_51.2.2.1) 5000 true cq_L_51.1 alt = true := by
  have e1 : cq_L_51.2.2.2 = al_L_51 := by dsimp only [cq_L_51]
  have e2 : cq_L_51.2.2.1 = mu_L_51 := by dsimp only [cq_L_51]
  have e3 : cq_L_51.1 = 1194 := by dsimp only [cq_L_51]
  rw [e1, e2, e3]
  exact rf_pcs (l := al_L_51) 1 ck_L_c_51 (List.isEmpty_iff.mp ck_L_n_51)
theorem ck_L_d_52 : ∀ alt ∈ cq_L_52.2.2.2, rf_run nm_cl nm_ct en_xs 8 xx_L kc_L cu_L po_L (some .boolean) 1 0 98 16364 (some cq_L_52.2.2.1) 5000 true cq_L_52.1 alt = true := by
  have e1 : cq_L_52.2.2.2 = al_L_52 := by dsimp only [cq_L_52]
  have e2 : cq_L_52.2.2.1 = mu_L_52 := by dsimp only [cq_L_52]
  have e3 : cq_L_52.1 = 1194 := by dsimp only [cq_L_52]
  rw [e1, e2, e3]
  exact rf_pcs (l := al_L_52) 1 ck_L_c_52 (List.isEmpty_iff.mp ck_L_n_52)
theorem ck_L_d_53 : ∀ alt ∈ cq_L_53.2.2.2, rf_run nm_cl nm_ct en_xs 8 xx_L kc_L cu_L po_L (some .boolean) 1 0 98 16364 (some cq_L_53.2.2.1) 5000 true cq_L_53.1 alt = true := by
  have e1 : cq_L_53.2.2.2 = al_L_53 := by dsimp only [cq_L_53]
  have e2 : cq_L_53.2.2.1 = mu_L_53 := by dsimp only [cq_L_53]
  have e3 : cq_L_53.1 = 1194 := by dsimp only [cq_L_53]
  rw [e1, e2, e3]
  exact rf_pcs (l := al_L_53) 1 ck_L_c_53 (List.isEmpty_iff.mp ck_L_n_53)
theorem ck_L_d_54 : ∀ alt ∈ cq_L_54.2.2.2, rf_run nm_cl nm_ct en_xs 8 xx_L kc_L cu_L po_L (some .boolean) 1 0 98 16364 (some cq_L_54.2.2.1) 5000 true cq_L_54.1 alt = true := by
  have e1 : cq_L_54.2.2.2 = al_L_54 := by dsimp only [cq_L_54]
  have e2 : cq_L_54.2.2.1 = mu_L_54 := by dsimp only [cq_L_54]
  have e3 : cq_L_54.1 = 1194 := by dsimp only [cq_L_54]
  rw [e1, e2, e3]
  exact rf_pcs (l := al_L_54) 1 ck_L_c_54 (List.isEmpty_iff.mp ck_L_n_54)
theorem ck_L_d_55 : ∀ alt ∈ cq_L_55.2.2.2, rf_run nm_cl nm_ct en_xs 8 xx_L kc_L cu_L po_L (some .boolean) 1 0 98 16364 (some cq_L_55.2.2.1) 5000 true cq_L_55.1 alt = true := by
  have e1 : cq_L_55.2.2.2 = al_L_55 := by dsimp only [cq_L_55]
  have e2 : cq_L_55.2.2.1 = mu_L_55 := by dsimp only [cq_L_55]
  have e3 : cq_L_55.1 = 1194 := by dsimp only [cq_L_55]
  rw [e1, e2, e3]
  exact rf_pcs (l := al_L_55) 1 ck_L_c_55 (List.isEmpty_iff.mp ck_L_n_55)
theorem ck_L_d_56 : ∀ alt ∈ cq_L_56.2.2.2, rf_run nm_cl nm_ct en_xs 8 xx_L kc_L cu_L po_L (some .boolean) 1 0 98 16364 (some cq_L_56.2.2.1) 5000 true cq_L_56.1 alt = true := by
  have e1 : cq_L_56.2.2.2 = al_L_56 := by dsimp only [cq_L_56]
  have e2 : cq_L_56.2.2.1 = mu_L_56 := by dsimp only [cq_L_56]
  have e3 : cq_L_56.1 = 1194 := by dsimp only [cq_L_56]
  rw [e1, e2, e3]
  exact rf_pcs (l := al_L_56) 1 ck_L_c_56 (List.isEmpty_iff.mp ck_L_n_56)
theorem ck_L_d_57 : ∀ alt ∈ cq_L_57.2.2.2, rf_run nm_cl nm_ct en_xs 8 xx_L kc_L cu_L po_L (some .boolean) 1 0 98 16364 (some cq_L_57.2.2.1) 5000 true cq_L_57.1 alt = true := by
  have e1 : cq_L_57.2.2.2 = al_L_57 := by dsimp only [cq_L_57]
  have e2 : cq_L_57.2.2.1 = mu_L_57 := by dsimp only [cq_L_57]
  have e3 : cq_L_57.1 = 1194 := by dsimp only [cq_L_57]
  rw [e1, e2, e3]
  exact rf_pcs (l := al_L_57) 1 ck_L_c_57 (List.isEmpty_iff.mp ck_L_n_57)
theorem ck_L_d_58 : ∀ alt ∈ cq_L_58.2.2.2, rf_run nm_cl nm_ct en_xs 8 xx_L kc_L cu_L po_L (some .boolean) 1 0 98 16364 (some cq_L_58.2.2.1) 5000 true cq_L_58.1 alt = true := by
  have e1 : cq_L_58.2.2.2 = al_L_58 := by dsimp only [cq_L_58]
  have e2 : cq_L_58.2.2.1 = mu_L_58 := by dsimp only [cq_L_58]
  have e3 : cq_L_58.1 = 1194 := by dsimp only [cq_L_58]
  rw [e1, e2, e3]
  exact rf_pcs (l := al_L_58) 1 ck_L_c_58 (List.isEmpty_iff.mp ck_L_n_58)
theorem ck_L_d_59 : ∀ alt ∈ cq_L_59.2.2.2, rf_run nm_cl nm_ct en_xs 8 xx_L kc_L cu_L po_L (some .boolean) 1 0 98 16364 (some cq_L_59.2.2.1) 5000 true cq_L_59.1 alt = true := by
  have e1 : cq_L_59.2.2.2 = al_L_59 := by dsimp only [cq_L_59]
  have e2 : cq_L_59.2.2.1 = mu_L_59 := by dsimp only [cq_L_59]
  have e3 : cq_L_59.1 = 1194 := by dsimp only [cq_L_59]
  rw [e1, e2, e3]
  exact rf_pcs (l := al_L_59) 1 ck_L_c_59 (List.isEmpty_iff.mp ck_L_n_59)
theorem ck_L_d_60 : ∀ alt ∈ cq_L_60.2.2.2, rf_run nm_cl nm_ct en_xs 8 xx_L kc_L cu_L po_L (some .boolean) 1 0 98 16364 (some cq_L_60.2.2.1) 5000 true cq_L_60.1 alt = true := by
  have e1 : cq_L_60.2.2.2 = al_L_60 := by dsimp only [cq_L_60]
  have e2 : cq_L_60.2.2.1 = mu_L_60 := by dsimp only [cq_L_60]
  have e3 : cq_L_60.1 = 1194 := by dsimp only [cq_L_60]
  rw [e1, e2, e3]
  exact rf_pcs (l := al_L_60) 1 ck_L_c_60 (List.isEmpty_iff.mp ck_L_n_60)
theorem ck_L_d_61 : ∀ alt ∈ cq_L_61.2.2.2, rf_run nm_cl nm_ct en_xs 8 xx_L kc_L cu_L po_L (some .boolean) 1 0 98 16364 (some cq_L_61.2.2.1) 5000 true cq_L_61.1 alt = true := by
  have e1 : cq_L_61.2.2.2 = al_L_61 := by dsimp only [cq_L_61]
  have e2 : cq_L_61.2.2.1 = mu_L_61 := by dsimp only [cq_L_61]
  have e3 : cq_L_61.1 = 1194 := by dsimp only [cq_L_61]
  rw [e1, e2, e3]
  exact rf_pcs (l := al_L_61) 1 ck_L_c_61 (List.isEmpty_iff.mp ck_L_n_61)
theorem ck_L_d_62 : ∀ alt ∈ cq_L_62.2.2.2, rf_run nm_cl nm_ct en_xs 8 xx_L kc_L cu_L po_L (some .boolean) 1 0 98 16364 (some cq_L_62.2.2.1) 5000 true cq_L_62.1 alt = true := by
  have e1 : cq_L_62.2.2.2 = al_L_62 := by dsimp only [cq_L_62]
  have e2 : cq_L_62.2.2.1 = mu_L_62 := by dsimp only [cq_L_62]
  have e3 : cq_L_62.1 = 1209 := by dsimp only [cq_L_62]
  rw [e1, e2, e3]
  exact rf_pcs (l := al_L_62) 1 ck_L_c_62 (List.isEmpty_iff.mp ck_L_n_62)
theorem ck_L_d_63 : ∀ alt ∈ cq_L_63.2.2.2, rf_run nm_cl nm_ct en_xs 8 xx_L kc_L cu_L po_L (some .boolean) 1 0 98 16364 (some cq_L_63.2.2.1) 5000 true cq_L_63.1 alt = true := by
  have e1 : cq_L_63.2.2.2 = al_L_63 := by dsimp only [cq_L_63]
  have e2 : cq_L_63.2.2.1 = mu_L_63 := by dsimp only [cq_L_63]
  have e3 : cq_L_63.1 = 1209 := by dsimp only [cq_L_63]
  rw [e1, e2, e3]
  exact rf_pcs (l := al_L_63) 1 ck_L_c_63 (List.isEmpty_iff.mp ck_L_n_63)
theorem ck_L_d_64 : ∀ alt ∈ cq_L_64.2.2.2, rf_run nm_cl nm_ct en_xs 8 xx_L kc_L cu_L po_L (some .boolean) 1 0 98 16364 (some cq_L_64.2.2.1) 5000 true cq_L_64.1 alt = true := by
  have e1 : cq_L_64.2.2.2 = al_L_64 := by dsimp only [cq_L_64]
  have e2 : cq_L_64.2.2.1 = mu_L_64 := by dsimp only [cq_L_64]
  have e3 : cq_L_64.1 = 1209 := by dsimp only [cq_L_64]
  rw [e1, e2, e3]
  exact rf_pcs (l := al_L_64) 1 ck_L_c_64 (List.isEmpty_iff.mp ck_L_n_64)
theorem ck_L_d_65 : ∀ alt ∈ cq_L_65.2.2.2, rf_run nm_cl nm_ct en_xs 8 xx_L kc_L cu_L po_L (some .boolean) 1 0 98 16364 (some cq_L_65.2.2.1) 5000 true cq_L_65.1 alt = true := by
  have e1 : cq_L_65.2.2.2 = al_L_65 := by dsimp only [cq_L_65]
  have e2 : cq_L_65.2.2.1 = mu_L_65 := by dsimp only [cq_L_65]
  have e3 : cq_L_65.1 = 1209 := by dsimp only [cq_L_65]
  rw [e1, e2, e3]
  exact rf_pcs (l := al_L_65) 1 ck_L_c_65 (List.isEmpty_iff.mp ck_L_n_65)
theorem ck_L_d_66 : ∀ alt ∈ cq_L_66.2.2.2, rf_run nm_cl nm_ct en_xs 8 xx_L kc_L cu_L po_L (some .boolean) 1 0 98 16364 (some cq_L_66.2.2.1) 5000 true cq_L_66.1 alt = true := by
  have e1 : cq_L_66.2.2.2 = al_L_66 := by dsimp only [cq_L_66]
  have e2 : cq_L_66.2.2.1 = mu_L_66 := by dsimp only [cq_L_66]
  have e3 : cq_L_66.1 = 1209 := by dsimp only [cq_L_66]
  rw [e1, e2, e3]
  exact rf_pcs (l := al_L_66) 1 ck_L_c_66 (List.isEmpty_iff.mp ck_L_n_66)
theorem ck_L_d_67 : ∀ alt ∈ cq_L_67.2.2.2, rf_run nm_cl nm_ct en_xs 8 xx_L kc_L cu_L po_L (some .boolean) 1 0 98 16364 (some cq_L_67.2.2.1) 5000 true cq_L_67.1 alt = true := by
  have e1 : cq_L_67.2.2.2 = al_L_67 := by dsimp only [cq_L_67]
  have e2 : cq_L_67.2.2.1 = mu_L_67 := by dsimp only [cq_L_67]
  have e3 : cq_L_67.1 = 1209 := by dsimp only [cq_L_67]
  rw [e1, e2, e3]
  exact rf_pcs (l := al_L_67) 1 ck_L_c_67 (List.isEmpty_iff.mp ck_L_n_67)
theorem ck_L_d_68 : ∀ alt ∈ cq_L_68.2.2.2, rf_run nm_cl nm_ct en_xs 8 xx_L kc_L cu_L po_L (some .boolean) 1 0 98 16364 (some cq_L_68.2.2.1) 5000 true cq_L_68.1 alt = true := by
  have e1 : cq_L_68.2.2.2 = al_L_68 := by dsimp only [cq_L_68]
  have e2 : cq_L_68.2.2.1 = mu_L_68 := by dsimp only [cq_L_68]
  have e3 : cq_L_68.1 = 1209 := by dsimp only [cq_L_68]
  rw [e1, e2, e3]
  exact rf_pcs (l := al_L_68) 1 ck_L_c_68 (List.isEmpty_iff.mp ck_L_n_68)
theorem ck_L_d_69 : ∀ alt ∈ cq_L_69.2.2.2, rf_run nm_cl nm_ct en_xs 8 xx_L kc_L cu_L po_L (some .boolean) 1 0 98 16364 (some cq_L_69.2.2.1) 5000 true cq_L_69.1 alt = true := by
  have e1 : cq_L_69.2.2.2 = al_L_69 := by dsimp only [cq_L_69]
  have e2 : cq_L_69.2.2.1 = mu_L_69 := by dsimp only [cq_L_69]
  have e3 : cq_L_69.1 = 1209 := by dsimp only [cq_L_69]
  rw [e1, e2, e3]
  exact rf_pcs (l := al_L_69) 1 ck_L_c_69 (List.isEmpty_iff.mp ck_L_n_69)
theorem ck_L_d_70 : ∀ alt ∈ cq_L_70.2.2.2, rf_run nm_cl nm_ct en_xs 8 xx_L kc_L cu_L po_L (some .boolean) 1 0 98 16364 (some cq_L_70.2.2.1) 5000 true cq_L_70.1 alt = true := by
  have e1 : cq_L_70.2.2.2 = al_L_70 := by dsimp only [cq_L_70]
  have e2 : cq_L_70.2.2.1 = mu_L_70 := by dsimp only [cq_L_70]
  have e3 : cq_L_70.1 = 1209 := by dsimp only [cq_L_70]
  rw [e1, e2, e3]
  exact rf_pcs (l := al_L_70) 1 ck_L_c_70 (List.isEmpty_iff.mp ck_L_n_70)
theorem ck_L_d_71 : ∀ alt ∈ cq_L_71.2.2.2, rf_run nm_cl nm_ct en_xs 8 xx_L kc_L cu_L po_L (some .boolean) 1 0 98 16364 (some cq_L_71.2.2.1) 5000 true cq_L_71.1 alt = true := by
  have e1 : cq_L_71.2.2.2 = al_L_71 := by dsimp only [cq_L_71]
  have e2 : cq_L_71.2.2.1 = mu_L_71 := by dsimp only [cq_L_71]
  have e3 : cq_L_71.1 = 1209 := by dsimp only [cq_L_71]
  rw [e1, e2, e3]
  exact rf_pcs (l := al_L_71) 1 ck_L_c_71 (List.isEmpty_iff.mp ck_L_n_71)
theorem ck_L_d_72 : ∀ alt ∈ cq_L_72.2.2.2, rf_run nm_cl nm_ct en_xs 8 xx_L kc_L cu_L po_L (some .boolean) 1 0 98 16364 (some cq_L_72.2.2.1) 5000 true cq_L_72.1 alt = true := by
  have e1 : cq_L_72.2.2.2 = al_L_72 := by dsimp only [cq_L_72]
  have e2 : cq_L_72.2.2.1 = mu_L_72 := by dsimp only [cq_L_72]
  have e3 : cq_L_72.1 = 1209 := by dsimp only [cq_L_72]
  rw [e1, e2, e3]
  exact rf_pcs (l := al_L_72) 1 ck_L_c_72 (List.isEmpty_iff.mp ck_L_n_72)
theorem ck_L_d_73 : ∀ alt ∈ cq_L_73.2.2.2, rf_run nm_cl nm_ct en_xs 8 xx_L kc_L cu_L po_L (some .boolean) 1 0 98 16364 (some cq_L_73.2.2.1) 5000 true cq_L_73.1 alt = true := by
  have e1 : cq_L_73.2.2.2 = al_L_73 := by dsimp only [cq_L_73]
  have e2 : cq_L_73.2.2.1 = mu_L_73 := by dsimp only [cq_L_73]
  have e3 : cq_L_73.1 = 1209 := by dsimp only [cq_L_73]
  rw [e1, e2, e3]
  exact rf_pcs (l := al_L_73) 1 ck_L_c_73 (List.isEmpty_iff.mp ck_L_n_73)
theorem ck_L_d_74 : ∀ alt ∈ cq_L_74.2.2.2, rf_run nm_cl nm_ct en_xs 8 xx_L kc_L cu_L po_L (some .boolean) 1 0 98 16364 (some cq_L_74.2.2.1) 5000 true cq_L_74.1 alt = true := by
  have e1 : cq_L_74.2.2.2 = al_L_74 := by dsimp only [cq_L_74]
  have e2 : cq_L_74.2.2.1 = mu_L_74 := by dsimp only [cq_L_74]
  have e3 : cq_L_74.1 = 1209 := by dsimp only [cq_L_74]
  rw [e1, e2, e3]
  exact rf_pcs (l := al_L_74) 1 ck_L_c_74 (List.isEmpty_iff.mp ck_L_n_74)
theorem ck_L_d_75 : ∀ alt ∈ cq_L_75.2.2.2, rf_run nm_cl nm_ct en_xs 8 xx_L kc_L cu_L po_L (some .boolean) 1 0 98 16364 (some cq_L_75.2.2.1) 5000 true cq_L_75.1 alt = true := by
  have e1 : cq_L_75.2.2.2 = al_L_75 := by dsimp only [cq_L_75]
  have e2 : cq_L_75.2.2.1 = mu_L_75 := by dsimp only [cq_L_75]
  have e3 : cq_L_75.1 = 1213 := by dsimp only [cq_L_75]
  rw [e1, e2, e3]
  exact rf_pcs (l := al_L_75) 1 ck_L_c_75 (List.isEmpty_iff.mp ck_L_n_75)
theorem ck_L_d_76 : ∀ alt ∈ cq_L_76.2.2.2, rf_run nm_cl nm_ct en_xs 8 xx_L kc_L cu_L po_L (some .boolean) 1 0 98 16364 (some cq_L_76.2.2.1) 5000 true cq_L_76.1 alt = true := by
  have e1 : cq_L_76.2.2.2 = al_L_76 := by dsimp only [cq_L_76]
  have e2 : cq_L_76.2.2.1 = mu_L_76 := by dsimp only [cq_L_76]
  have e3 : cq_L_76.1 = 1229 := by dsimp only [cq_L_76]
  rw [e1, e2, e3]
  exact rf_pcs (l := al_L_76) 8 ck_L_c_76 (List.isEmpty_iff.mp ck_L_n_76)
theorem ck_L_d_77 : ∀ alt ∈ cq_L_77.2.2.2, rf_run nm_cl nm_ct en_xs 8 xx_L kc_L cu_L po_L (some .boolean) 1 0 98 16364 (some cq_L_77.2.2.1) 5000 true cq_L_77.1 alt = true := by
  have e1 : cq_L_77.2.2.2 = al_L_77 := by dsimp only [cq_L_77]
  have e2 : cq_L_77.2.2.1 = mu_L_77 := by dsimp only [cq_L_77]
  have e3 : cq_L_77.1 = 1252 := by dsimp only [cq_L_77]
  rw [e1, e2, e3]
  exact rf_pcs (l := al_L_77) 1 ck_L_c_77 (List.isEmpty_iff.mp ck_L_n_77)
theorem ck_L_d_78 : ∀ alt ∈ cq_L_78.2.2.2, rf_run nm_cl nm_ct en_xs 8 xx_L kc_L cu_L po_L (some .boolean) 1 0 98 16364 (some cq_L_78.2.2.1) 5000 true cq_L_78.1 alt = true := by
  have e1 : cq_L_78.2.2.2 = al_L_78 := by dsimp only [cq_L_78]
  have e2 : cq_L_78.2.2.1 = mu_L_78 := by dsimp only [cq_L_78]
  have e3 : cq_L_78.1 = 1252 := by dsimp only [cq_L_78]
  rw [e1, e2, e3]
  exact rf_pcs (l := al_L_78) 1 ck_L_c_78 (List.isEmpty_iff.mp ck_L_n_78)
theorem ck_L_d_79 : ∀ alt ∈ cq_L_79.2.2.2, rf_run nm_cl nm_ct en_xs 8 xx_L kc_L cu_L po_L (some .boolean) 1 0 98 16364 (some cq_L_79.2.2.1) 5000 true cq_L_79.1 alt = true := by
  have e1 : cq_L_79.2.2.2 = al_L_79 := by dsimp only [cq_L_79]
  have e2 : cq_L_79.2.2.1 = mu_L_79 := by dsimp only [cq_L_79]
  have e3 : cq_L_79.1 = 1252 := by dsimp only [cq_L_79]
  rw [e1, e2, e3]
  exact rf_pcs (l := al_L_79) 1 ck_L_c_79 (List.isEmpty_iff.mp ck_L_n_79)
theorem ck_L_d_80 : ∀ alt ∈ cq_L_80.2.2.2, rf_run nm_cl nm_ct en_xs 8 xx_L kc_L cu_L po_L (some .boolean) 1 0 98 16364 (some cq_L_80.2.2.1) 5000 true cq_L_80.1 alt = true := by
  have e1 : cq_L_80.2.2.2 = al_L_80 := by dsimp only [cq_L_80]
  have e2 : cq_L_80.2.2.1 = mu_L_80 := by dsimp only [cq_L_80]
  have e3 : cq_L_80.1 = 1252 := by dsimp only [cq_L_80]
  rw [e1, e2, e3]
  exact rf_pcs (l := al_L_80) 1 ck_L_c_80 (List.isEmpty_iff.mp ck_L_n_80)
theorem ck_L_d_81 : ∀ alt ∈ cq_L_81.2.2.2, rf_run nm_cl nm_ct en_xs 8 xx_L kc_L cu_L po_L (some .boolean) 1 0 98 16364 (some cq_L_81.2.2.1) 5000 true cq_L_81.1 alt = true := by
  have e1 : cq_L_81.2.2.2 = al_L_81 := by dsimp only [cq_L_81]
  have e2 : cq_L_81.2.2.1 = mu_L_81 := by dsimp only [cq_L_81]
  have e3 : cq_L_81.1 = 1252 := by dsimp only [cq_L_81]
  rw [e1, e2, e3]
  exact rf_pcs (l := al_L_81) 1 ck_L_c_81 (List.isEmpty_iff.mp ck_L_n_81)
theorem ck_L_d_82 : ∀ alt ∈ cq_L_82.2.2.2, rf_run nm_cl nm_ct en_xs 8 xx_L kc_L cu_L po_L (some .boolean) 1 0 98 16364 (some cq_L_82.2.2.1) 5000 true cq_L_82.1 alt = true := by
  have e1 : cq_L_82.2.2.2 = al_L_82 := by dsimp only [cq_L_82]
  have e2 : cq_L_82.2.2.1 = mu_L_82 := by dsimp only [cq_L_82]
  have e3 : cq_L_82.1 = 1252 := by dsimp only [cq_L_82]
  rw [e1, e2, e3]
  exact rf_pcs (l := al_L_82) 1 ck_L_c_82 (List.isEmpty_iff.mp ck_L_n_82)
theorem ck_L_d_83 : ∀ alt ∈ cq_L_83.2.2.2, rf_run nm_cl nm_ct en_xs 8 xx_L kc_L cu_L po_L (some .boolean) 1 0 98 16364 (some cq_L_83.2.2.1) 5000 true cq_L_83.1 alt = true := by
  have e1 : cq_L_83.2.2.2 = al_L_83 := by dsimp only [cq_L_83]
  have e2 : cq_L_83.2.2.1 = mu_L_83 := by dsimp only [cq_L_83]
  have e3 : cq_L_83.1 = 1252 := by dsimp only [cq_L_83]
  rw [e1, e2, e3]
  exact rf_pcs (l := al_L_83) 1 ck_L_c_83 (List.isEmpty_iff.mp ck_L_n_83)
theorem ck_L_d_84 : ∀ alt ∈ cq_L_84.2.2.2, rf_run nm_cl nm_ct en_xs 8 xx_L kc_L cu_L po_L (some .boolean) 1 0 98 16364 (some cq_L_84.2.2.1) 5000 true cq_L_84.1 alt = true := by
  have e1 : cq_L_84.2.2.2 = al_L_84 := by dsimp only [cq_L_84]
  have e2 : cq_L_84.2.2.1 = mu_L_84 := by dsimp only [cq_L_84]
  have e3 : cq_L_84.1 = 1252 := by dsimp only [cq_L_84]
  rw [e1, e2, e3]
  exact rf_pcs (l := al_L_84) 1 ck_L_c_84 (List.isEmpty_iff.mp ck_L_n_84)
theorem ck_L_d_85 : ∀ alt ∈ cq_L_85.2.2.2, rf_run nm_cl nm_ct en_xs 8 xx_L kc_L cu_L po_L (some .boolean) 1 0 98 16364 (some cq_L_85.2.2.1) 5000 true cq_L_85.1 alt = true := by
  have e1 : cq_L_85.2.2.2 = al_L_85 := by dsimp only [cq_L_85]
  have e2 : cq_L_85.2.2.1 = mu_L_85 := by dsimp only [cq_L_85]
  have e3 : cq_L_85.1 = 1256 := by dsimp only [cq_L_85]
  rw [e1, e2, e3]
  exact rf_pcs (l := al_L_85) 1 ck_L_c_85 (List.isEmpty_iff.mp ck_L_n_85)
theorem ck_L_d_86 : ∀ alt ∈ cq_L_86.2.2.2, rf_run nm_cl nm_ct en_xs 8 xx_L kc_L cu_L po_L (some .boolean) 1 0 98 16364 (some cq_L_86.2.2.1) 5000 true cq_L_86.1 alt = true := by
  have e1 : cq_L_86.2.2.2 = al_L_86 := by dsimp only [cq_L_86]
  have e2 : cq_L_86.2.2.1 = mu_L_86 := by dsimp only [cq_L_86]
  have e3 : cq_L_86.1 = 1290 := by dsimp only [cq_L_86]
  rw [e1, e2, e3]
  exact rf_pcs (l := al_L_86) 1 ck_L_c_86 (List.isEmpty_iff.mp ck_L_n_86)
theorem ck_L_d_87 : ∀ alt ∈ cq_L_87.2.2.2, rf_run nm_cl nm_ct en_xs 8 xx_L kc_L cu_L po_L (some .boolean) 1 0 98 16364 (some cq_L_87.2.2.1) 5000 true cq_L_87.1 alt = true := by
  have e1 : cq_L_87.2.2.2 = al_L_87 := by dsimp only [cq_L_87]
  have e2 : cq_L_87.2.2.1 = mu_L_87 := by dsimp only [cq_L_87]
  have e3 : cq_L_87.1 = 1290 := by dsimp only [cq_L_87]
  rw [e1, e2, e3]
  exact rf_pcs (l := al_L_87) 1 ck_L_c_87 (List.isEmpty_iff.mp ck_L_n_87)
theorem ck_L_d_88 : ∀ alt ∈ cq_L_88.2.2.2, rf_run nm_cl nm_ct en_xs 8 xx_L kc_L cu_L po_L (some .boolean) 1 0 98 16364 (some cq_L_88.2.2.1) 5000 true cq_L_88.1 alt = true := by
  have e1 : cq_L_88.2.2.2 = al_L_88 := by dsimp only [cq_L_88]
  have e2 : cq_L_88.2.2.1 = mu_L_88 := by dsimp only [cq_L_88]
  have e3 : cq_L_88.1 = 1290 := by dsimp only [cq_L_88]
  rw [e1, e2, e3]
  exact rf_pcs (l := al_L_88) 1 ck_L_c_88 (List.isEmpty_iff.mp ck_L_n_88)
theorem ck_L_d_89 : ∀ alt ∈ cq_L_89.2.2.2, rf_run nm_cl nm_ct en_xs 8 xx_L kc_L cu_L po_L (some .boolean) 1 0 98 16364 (some cq_L_89.2.2.1) 5000 true cq_L_89.1 alt = true := by
  have e1 : cq_L_89.2.2.2 = al_L_89 := by dsimp only [cq_L_89]
  have e2 : cq_L_89.2.2.1 = mu_L_89 := by dsimp only [cq_L_89]
  have e3 : cq_L_89.1 = 1290 := by dsimp only [cq_L_89]
  rw [e1, e2, e3]
  exact rf_pcs (l := al_L_89) 1 ck_L_c_89 (List.isEmpty_iff.mp ck_L_n_89)
theorem ck_L_d_90 : ∀ alt ∈ cq_L_90.2.2.2, rf_run nm_cl nm_ct en_xs 8 xx_L kc_L cu_L po_L (some .boolean) 1 0 98 16364 (some cq_L_90.2.2.1) 5000 true cq_L_90.1 alt = true := by
  have e1 : cq_L_90.2.2.2 = al_L_90 := by dsimp only [cq_L_90]
  have e2 : cq_L_90.2.2.1 = mu_L_90 := by dsimp only [cq_L_90]
  have e3 : cq_L_90.1 = 1290 := by dsimp only [cq_L_90]
  rw [e1, e2, e3]
  exact rf_pcs (l := al_L_90) 1 ck_L_c_90 (List.isEmpty_iff.mp ck_L_n_90)
theorem ck_L_d_91 : ∀ alt ∈ cq_L_91.2.2.2, rf_run nm_cl nm_ct en_xs 8 xx_L kc_L cu_L po_L (some .boolean) 1 0 98 16364 (some cq_L_91.2.2.1) 5000 true cq_L_91.1 alt = true := by
  have e1 : cq_L_91.2.2.2 = al_L_91 := by dsimp only [cq_L_91]
  have e2 : cq_L_91.2.2.1 = mu_L_91 := by dsimp only [cq_L_91]
  have e3 : cq_L_91.1 = 1290 := by dsimp only [cq_L_91]
  rw [e1, e2, e3]
  exact rf_pcs (l := al_L_91) 1 ck_L_c_91 (List.isEmpty_iff.mp ck_L_n_91)
theorem ck_L_d_92 : ∀ alt ∈ cq_L_92.2.2.2, rf_run nm_cl nm_ct en_xs 8 xx_L kc_L cu_L po_L (some .boolean) 1 0 98 16364 (some cq_L_92.2.2.1) 5000 true cq_L_92.1 alt = true := by
  have e1 : cq_L_92.2.2.2 = al_L_92 := by dsimp only [cq_L_92]
  have e2 : cq_L_92.2.2.1 = mu_L_92 := by dsimp only [cq_L_92]
  have e3 : cq_L_92.1 = 1290 := by dsimp only [cq_L_92]
  rw [e1, e2, e3]
  exact rf_pcs (l := al_L_92) 1 ck_L_c_92 (List.isEmpty_iff.mp ck_L_n_92)
theorem ck_L_d_93 : ∀ alt ∈ cq_L_93.2.2.2, rf_run nm_cl nm_ct en_xs 8 xx_L kc_L cu_L po_L (some .boolean) 1 0 98 16364 (some cq_L_93.2.2.1) 5000 true cq_L_93.1 alt = true := by
  have e1 : cq_L_93.2.2.2 = al_L_93 := by dsimp only [cq_L_93]
  have e2 : cq_L_93.2.2.1 = mu_L_93 := by dsimp only [cq_L_93]
  have e3 : cq_L_93.1 = 1329 := by dsimp only [cq_L_93]
  rw [e1, e2, e3]
  exact rf_pcs (l := al_L_93) 1 ck_L_c_93 (List.isEmpty_iff.mp ck_L_n_93)
theorem ck_L_d_94 : ∀ alt ∈ cq_L_94.2.2.2, rf_run nm_cl nm_ct en_xs 8 xx_L kc_L cu_L po_L (some .boolean) 1 0 98 16364 (some cq_L_94.2.2.1) 5000 true cq_L_94.1 alt = true := by
  have e1 : cq_L_94.2.2.2 = al_L_94 := by dsimp only [cq_L_94]
  have e2 : cq_L_94.2.2.1 = mu_L_94 := by dsimp only [cq_L_94]
  have e3 : cq_L_94.1 = 1362 := by dsimp only [cq_L_94]
  rw [e1, e2, e3]
  exact rf_pcs (l := al_L_94) 1 ck_L_c_94 (List.isEmpty_iff.mp ck_L_n_94)
theorem ck_L_d_95 : ∀ alt ∈ cq_L_95.2.2.2, rf_run nm_cl nm_ct en_xs 8 xx_L kc_L cu_L po_L (some .boolean) 1 0 98 16364 (some cq_L_95.2.2.1) 5000 true cq_L_95.1 alt = true := by
  have e1 : cq_L_95.2.2.2 = al_L_95 := by dsimp only [cq_L_95]
  have e2 : cq_L_95.2.2.1 = mu_L_95 := by dsimp only [cq_L_95]
  have e3 : cq_L_95.1 = 1391 := by dsimp only [cq_L_95]
  rw [e1, e2, e3]
  exact rf_pcs (l := al_L_95) 1 ck_L_c_95 (List.isEmpty_iff.mp ck_L_n_95)
theorem ck_L_d_96 : ∀ alt ∈ cq_L_96.2.2.2, rf_run nm_cl nm_ct en_xs 8 xx_L kc_L cu_L po_L (some .boolean) 1 0 98 16364 (some cq_L_96.2.2.1) 5000 true cq_L_96.1 alt = true := by
  have e1 : cq_L_96.2.2.2 = al_L_96 := by dsimp only [cq_L_96]
  have e2 : cq_L_96.2.2.1 = mu_L_96 := by dsimp only [cq_L_96]
  have e3 : cq_L_96.1 = 1391 := by dsimp only [cq_L_96]
  rw [e1, e2, e3]
  exact rf_pcs (l := al_L_96) 1 ck_L_c_96 (List.isEmpty_iff.mp ck_L_n_96)
theorem ck_L_d_97 : ∀ alt ∈ cq_L_97.2.2.2, rf_run nm_cl nm_ct en_xs 8 xx_L kc_L cu_L po_L (some .boolean) 1 0 98 16364 (some cq_L_97.2.2.1) 5000 true cq_L_97.1 alt = true := by
  have e1 : cq_L_97.2.2.2 = al_L_97 := by dsimp only [cq_L_97]
  have e2 : cq_L_97.2.2.1 = mu_L_97 := by dsimp only [cq_L_97]
  have e3 : cq_L_97.1 = 1391 := by dsimp only [cq_L_97]
  rw [e1, e2, e3]
  exact rf_pcs (l := al_L_97) 1 ck_L_c_97 (List.isEmpty_iff.mp ck_L_n_97)
theorem ck_L_d_98 : ∀ alt ∈ cq_L_98.2.2.2, rf_run nm_cl nm_ct en_xs 8 xx_L kc_L cu_L po_L (some .boolean) 1 0 98 16364 (some cq_L_98.2.2.1) 5000 true cq_L_98.1 alt = true := by
  have e1 : cq_L_98.2.2.2 = al_L_98 := by dsimp only [cq_L_98]
  have e2 : cq_L_98.2.2.1 = mu_L_98 := by dsimp only [cq_L_98]
  have e3 : cq_L_98.1 = 1391 := by dsimp only [cq_L_98]
  rw [e1, e2, e3]
  exact rf_pcs (l := al_L_98) 1 ck_L_c_98 (List.isEmpty_iff.mp ck_L_n_98)
theorem ck_L_d_99 : ∀ alt ∈ cq_L_99.2.2.2, rf_run nm_cl nm_ct en_xs 8 xx_L kc_L cu_L po_L (some .boolean) 1 0 98 16364 (some cq_L_99.2.2.1) 5000 true cq_L_99.1 alt = true := by
  have e1 : cq_L_99.2.2.2 = al_L_99 := by dsimp only [cq_L_99]
  have e2 : cq_L_99.2.2.1 = mu_L_99 := by dsimp only [cq_L_99]
  have e3 : cq_L_99.1 = 1391 := by dsimp only [cq_L_99]
  rw [e1, e2, e3]
  exact rf_pcs (l := al_L_99) 1 ck_L_c_99 (List.isEmpty_iff.mp ck_L_n_99)
theorem ck_L_d_100 : ∀ alt ∈ cq_L_100.2.2.2, rf_run nm_cl nm_ct en_xs 8 xx_L kc_L cu_L po_L (some .boolean) 1 0 98 16364 (some cq_L_100.2.2.1) 5000 true cq_L_100.1 alt = true := by
  have e1 : cq_L_100.2.2.2 = al_L_100 := by dsimp only [cq_L_100]
  have e2 : cq_L_100.2.2.1 = mu_L_100 := by dsimp only [cq_L_100]
  have e3 : cq_L_100.1 = 1391 := by dsimp only [cq_L_100]
  rw [e1, e2, e3]
  exact rf_pcs (l := al_L_100) 1 ck_L_c_100 (List.isEmpty_iff.mp ck_L_n_100)
theorem ck_L_d_101 : ∀ alt ∈ cq_L_101.2.2.2, rf_run nm_cl nm_ct en_xs 8 xx_L kc_L cu_L po_L (some .boolean) 1 0 98 16364 (some cq_L_101.2.2.1) 5000 true cq_L_101.1 alt = true := by
  have e1 : cq_L_101.2.2.2 = al_L_101 := by dsimp only [cq_L_101]
  have e2 : cq_L_101.2.2.1 = mu_L_101 := by dsimp only [cq_L_101]
  have e3 : cq_L_101.1 = 1391 := by dsimp only [cq_L_101]
  rw [e1, e2, e3]
  exact rf_pcs (l := al_L_101) 1 ck_L_c_101 (List.isEmpty_iff.mp ck_L_n_101)
theorem ck_L_d_102 : ∀ alt ∈ cq_L_102.2.2.2, rf_run nm_cl nm_ct en_xs 8 xx_L kc_L cu_L po_L (some .boolean) 1 0 98 16364 (some cq_L_102.2.2.1) 5000 true cq_L_102.1 alt = true := by
  have e1 : cq_L_102.2.2.2 = al_L_102 := by dsimp only [cq_L_102]
  have e2 : cq_L_102.2.2.1 = mu_L_102 := by dsimp only [cq_L_102]
  have e3 : cq_L_102.1 = 1391 := by dsimp only [cq_L_102]
  rw [e1, e2, e3]
  exact rf_pcs (l := al_L_102) 1 ck_L_c_102 (List.isEmpty_iff.mp ck_L_n_102)
theorem ck_L_d_103 : ∀ alt ∈ cq_L_103.2.2.2, rf_run nm_cl nm_ct en_xs 8 xx_L kc_L cu_L po_L (some .boolean) 1 0 98 16364 (some cq_L_103.2.2.1) 5000 true cq_L_103.1 alt = true := by
  have e1 : cq_L_103.2.2.2 = al_L_103 := by dsimp only [cq_L_103]
  have e2 : cq_L_103.2.2.1 = mu_L_103 := by dsimp only [cq_L_103]
  have e3 : cq_L_103.1 = 1391 := by dsimp only [cq_L_103]
  rw [e1, e2, e3]
  exact rf_pcs (l := al_L_103) 1 ck_L_c_103 (List.isEmpty_iff.mp ck_L_n_103)
theorem ck_L_d_104 : ∀ alt ∈ cq_L_104.2.2.2, rf_run nm_cl nm_ct en_xs 8 xx_L kc_L cu_L po_L (some .boolean) 1 0 98 16364 (some cq_L_104.2.2.1) 5000 true cq_L_104.1 alt = true := by
  have e1 : cq_L_104.2.2.2 = al_L_104 := by dsimp only [cq_L_104]
  have e2 : cq_L_104.2.2.1 = mu_L_104 := by dsimp only [cq_L_104]
  have e3 : cq_L_104.1 = 1391 := by dsimp only [cq_L_104]
  rw [e1, e2, e3]
  exact rf_pcs (l := al_L_104) 1 ck_L_c_104 (List.isEmpty_iff.mp ck_L_n_104)
theorem ck_L_d_105 : ∀ alt ∈ cq_L_105.2.2.2, rf_run nm_cl nm_ct en_xs 8 xx_L kc_L cu_L po_L (some .boolean) 1 0 98 16364 (some cq_L_105.2.2.1) 5000 true cq_L_105.1 alt = true := by
  have e1 : cq_L_105.2.2.2 = al_L_105 := by dsimp only [cq_L_105]
  have e2 : cq_L_105.2.2.1 = mu_L_105 := by dsimp only [cq_L_105]
  have e3 : cq_L_105.1 = 1391 := by dsimp only [cq_L_105]
  rw [e1, e2, e3]
  exact rf_pcs (l := al_L_105) 1 ck_L_c_105 (List.isEmpty_iff.mp ck_L_n_105)
theorem ck_L_d_106 : ∀ alt ∈ cq_L_106.2.2.2, rf_run nm_cl nm_ct en_xs 8 xx_L kc_L cu_L po_L (some .boolean) 1 0 98 16364 (some cq_L_106.2.2.1) 5000 true cq_L_106.1 alt = true := by
  have e1 : cq_L_106.2.2.2 = al_L_106 := by dsimp only [cq_L_106]
  have e2 : cq_L_106.2.2.1 = mu_L_106 := by dsimp only [cq_L_106]
  have e3 : cq_L_106.1 = 1391 := by dsimp only [cq_L_106]
  rw [e1, e2, e3]
  exact rf_pcs (l := al_L_106) 1 ck_L_c_106 (List.isEmpty_iff.mp ck_L_n_106)
theorem ck_L_d_107 : ∀ alt ∈ cq_L_107.2.2.2, rf_run nm_cl nm_ct en_xs 8 xx_L kc_L cu_L po_L (some .boolean) 1 0 98 16364 (some cq_L_107.2.2.1) 5000 true cq_L_107.1 alt = true := by
  have e1 : cq_L_107.2.2.2 = al_L_107 := by dsimp only [cq_L_107]
  have e2 : cq_L_107.2.2.1 = mu_L_107 := by dsimp only [cq_L_107]
  have e3 : cq_L_107.1 = 1391 := by dsimp only [cq_L_107]
  rw [e1, e2, e3]
  exact rf_pcs (l := al_L_107) 1 ck_L_c_107 (List.isEmpty_iff.mp ck_L_n_107)
theorem ck_L_d_108 : ∀ alt ∈ cq_L_108.2.2.2, rf_run nm_cl nm_ct en_xs 8 xx_L kc_L cu_L po_L (some .boolean) 1 0 98 16364 (some cq_L_108.2.2.1) 5000 true cq_L_108.1 alt = true := by
  have e1 : cq_L_108.2.2.2 = al_L_108 := by dsimp only [cq_L_108]
  have e2 : cq_L_108.2.2.1 = mu_L_108 := by dsimp only [cq_L_108]
  have e3 : cq_L_108.1 = 1391 := by dsimp only [cq_L_108]
  rw [e1, e2, e3]
  exact rf_pcs (l := al_L_108) 1 ck_L_c_108 (List.isEmpty_iff.mp ck_L_n_108)
theorem ck_L_d_109 : ∀ alt ∈ cq_L_109.2.2.2, rf_run nm_cl nm_ct en_xs 8 xx_L kc_L cu_L po_L (some .boolean) 1 0 98 16364 (some cq_L_109.2.2.1) 5000 true cq_L_109.1 alt = true := by
  have e1 : cq_L_109.2.2.2 = al_L_109 := by dsimp only [cq_L_109]
  have e2 : cq_L_109.2.2.1 = mu_L_109 := by dsimp only [cq_L_109]
  have e3 : cq_L_109.1 = 1391 := by dsimp only [cq_L_109]
  rw [e1, e2, e3]
  exact rf_pcs (l := al_L_109) 1 ck_L_c_109 (List.isEmpty_iff.mp ck_L_n_109)
theorem ck_L_d_110 : ∀ alt ∈ cq_L_110.2.2.2, rf_run nm_cl nm_ct en_xs 8 xx_L kc_L cu_L po_L (some .boolean) 1 0 98 16364 (some cq_L_110.2.2.1) 5000 true cq_L_110.1 alt = true := by
  have e1 : cq_L_110.2.2.2 = al_L_110 := by dsimp only [cq_L_110]
  have e2 : cq_L_110.2.2.1 = mu_L_110 := by dsimp only [cq_L_110]
  have e3 : cq_L_110.1 = 1391 := by dsimp only [cq_L_110]
  rw [e1, e2, e3]
  exact rf_pcs (l := al_L_110) 1 ck_L_c_110 (List.isEmpty_iff.mp ck_L_n_110)
theorem ck_L_d_111 : ∀ alt ∈ cq_L_111.2.2.2, rf_run nm_cl nm_ct en_xs 8 xx_L kc_L cu_L po_L (some .boolean) 1 0 98 16364 (some cq_L_111.2.2.1) 5000 true cq_L_111.1 alt = true := by
  have e1 : cq_L_111.2.2.2 = al_L_111 := by dsimp only [cq_L_111]
  have e2 : cq_L_111.2.2.1 = mu_L_111 := by dsimp only [cq_L_111]
  have e3 : cq_L_111.1 = 1391 := by dsimp only [cq_L_111]
  rw [e1, e2, e3]
  exact rf_pcs (l := al_L_111) 1 ck_L_c_111 (List.isEmpty_iff.mp ck_L_n_111)
theorem ck_L_d_112 : ∀ alt ∈ cq_L_112.2.2.2, rf_run nm_cl nm_ct en_xs 8 xx_L kc_L cu_L po_L (some .boolean) 1 0 98 16364 (some cq_L_112.2.2.1) 5000 true cq_L_112.1 alt = true := by
  have e1 : cq_L_112.2.2.2 = al_L_112 := by dsimp only [cq_L_112]
  have e2 : cq_L_112.2.2.1 = mu_L_112 := by dsimp only [cq_L_112]
  have e3 : cq_L_112.1 = 1391 := by dsimp only [cq_L_112]
  rw [e1, e2, e3]
  exact rf_pcs (l := al_L_112) 1 ck_L_c_112 (List.isEmpty_iff.mp ck_L_n_112)
theorem ck_L_d_113 : ∀ alt ∈ cq_L_113.2.2.2, rf_run nm_cl nm_ct en_xs 8 xx_L kc_L cu_L po_L (some .boolean) 1 0 98 16364 (some cq_L_113.2.2.1) 5000 true cq_L_113.1 alt = true := by
  have e1 : cq_L_113.2.2.2 = al_L_113 := by dsimp only [cq_L_113]
  have e2 : cq_L_113.2.2.1 = mu_L_113 := by dsimp only [cq_L_113]
  have e3 : cq_L_113.1 = 1391 := by dsimp only [cq_L_113]
  rw [e1, e2, e3]
  exact rf_pcs (l := al_L_113) 1 ck_L_c_113 (List.isEmpty_iff.mp ck_L_n_113)
theorem ck_L_d_114 : ∀ alt ∈ cq_L_114.2.2.2, rf_run nm_cl nm_ct en_xs 8 xx_L kc_L cu_L po_L (some .boolean) 1 0 98 16364 (some cq_L_114.2.2.1) 5000 true cq_L_114.1 alt = true := by
  have e1 : cq_L_114.2.2.2 = al_L_114 := by dsimp only [cq_L_114]
  have e2 : cq_L_114.2.2.1 = mu_L_114 := by dsimp only [cq_L_114]
  have e3 : cq_L_114.1 = 1391 := by dsimp only [cq_L_114]
  rw [e1, e2, e3]
  exact rf_pcs (l := al_L_114) 1 ck_L_c_114 (List.isEmpty_iff.mp ck_L_n_114)
theorem ck_L_d_115 : ∀ alt ∈ cq_L_115.2.2.2, rf_run nm_cl nm_ct en_xs 8 xx_L kc_L cu_L po_L (some .boolean) 1 0 98 16364 (some cq_L_115.2.2.1) 5000 true cq_L_115.1 alt = true := by
  have e1 : cq_L_115.2.2.2 = al_L_115 := by dsimp only [cq_L_115]
  have e2 : cq_L_115.2.2.1 = mu_L_115 := by dsimp only [cq_L_115]
  have e3 : cq_L_115.1 = 1420 := by dsimp only [cq_L_115]
  rw [e1, e2, e3]
  exact rf_pcs (l := al_L_115) 1 ck_L_c_115 (List.isEmpty_iff.mp ck_L_n_115)
theorem ck_L_d_116 : ∀ alt ∈ cq_L_116.2.2.2, rf_run nm_cl nm_ct en_xs 8 xx_L kc_L cu_L po_L (some .boolean) 1 0 98 16364 (some cq_L_116.2.2.1) 5000 true cq_L_116.1 alt = true := by
  have e1 : cq_L_116.2.2.2 = al_L_116 := by dsimp only [cq_L_116]
  have e2 : cq_L_116.2.2.1 = mu_L_116 := by dsimp only [cq_L_116]
  have e3 : cq_L_116.1 = 1420 := by dsimp only [cq_L_116]
  rw [e1, e2, e3]
  exact rf_pcs (l := al_L_116) 1 ck_L_c_116 (List.isEmpty_iff.mp ck_L_n_116)
theorem ck_L_d_117 : ∀ alt ∈ cq_L_117.2.2.2, rf_run nm_cl nm_ct en_xs 8 xx_L kc_L cu_L po_L (some .boolean) 1 0 98 16364 (some cq_L_117.2.2.1) 5000 true cq_L_117.1 alt = true := by
  have e1 : cq_L_117.2.2.2 = al_L_117 := by dsimp only [cq_L_117]
  have e2 : cq_L_117.2.2.1 = mu_L_117 := by dsimp only [cq_L_117]
  have e3 : cq_L_117.1 = 1420 := by dsimp only [cq_L_117]
  rw [e1, e2, e3]
  exact rf_pcs (l := al_L_117) 0 ck_L_c_117 (List.isEmpty_iff.mp ck_L_n_117)
theorem ck_L_d_118 : ∀ alt ∈ cq_L_118.2.2.2, rf_run nm_cl nm_ct en_xs 8 xx_L kc_L cu_L po_L (some .boolean) 1 0 98 16364 (some cq_L_118.2.2.1) 5000 true cq_L_118.1 alt = true := by
  have e1 : cq_L_118.2.2.2 = al_L_118 := by dsimp only [cq_L_118]
  have e2 : cq_L_118.2.2.1 = mu_L_118 := by dsimp only [cq_L_118]
  have e3 : cq_L_118.1 = 1420 := by dsimp only [cq_L_118]
  rw [e1, e2, e3]
  exact rf_pcs (l := al_L_118) 0 ck_L_c_118 (List.isEmpty_iff.mp ck_L_n_118)
theorem ck_L_d_119 : ∀ alt ∈ cq_L_119.2.2.2, rf_run nm_cl nm_ct en_xs 8 xx_L kc_L cu_L po_L (some .boolean) 1 0 98 16364 (some cq_L_119.2.2.1) 5000 true cq_L_119.1 alt = true := by
  have e1 : cq_L_119.2.2.2 = al_L_119 := by dsimp only [cq_L_119]
  have e2 : cq_L_119.2.2.1 = mu_L_119 := by dsimp only [cq_L_119]
  have e3 : cq_L_119.1 = 1420 := by dsimp only [cq_L_119]
  rw [e1, e2, e3]
  exact rf_pcs (l := al_L_119) 0 ck_L_c_119 (List.isEmpty_iff.mp ck_L_n_119)
theorem ck_L_d_120 : ∀ alt ∈ cq_L_120.2.2.2, rf_run nm_cl nm_ct en_xs 8 xx_L kc_L cu_L po_L (some .boolean) 1 0 98 16364 (some cq_L_120.2.2.1) 5000 true cq_L_120.1 alt = true := by
  have e1 : cq_L_120.2.2.2 = al_L_120 := by dsimp only [cq_L_120]
  have e2 : cq_L_120.2.2.1 = mu_L_120 := by dsimp only [cq_L_120]
  have e3 : cq_L_120.1 = 1420 := by dsimp only [cq_L_120]
  rw [e1, e2, e3]
  exact rf_pcs (l := al_L_120) 0 ck_L_c_120 (List.isEmpty_iff.mp ck_L_n_120)
theorem ck_L_d_121 : ∀ alt ∈ cq_L_121.2.2.2, rf_run nm_cl nm_ct en_xs 8 xx_L kc_L cu_L po_L (some .boolean) 1 0 98 16364 (some cq_L_121.2.2.1) 5000 true cq_L_121.1 alt = true := by
  have e1 : cq_L_121.2.2.2 = al_L_121 := by dsimp only [cq_L_121]
  have e2 : cq_L_121.2.2.1 = mu_L_121 := by dsimp only [cq_L_121]
  have e3 : cq_L_121.1 = 1420 := by dsimp only [cq_L_121]
  rw [e1, e2, e3]
  exact rf_pcs (l := al_L_121) 0 ck_L_c_121 (List.isEmpty_iff.mp ck_L_n_121)
theorem ck_L_d_122 : ∀ alt ∈ cq_L_122.2.2.2, rf_run nm_cl nm_ct en_xs 8 xx_L kc_L cu_L po_L (some .boolean) 1 0 98 16364 (some cq_L_122.2.2.1) 5000 true cq_L_122.1 alt = true := by
  have e1 : cq_L_122.2.2.2 = al_L_122 := by dsimp only [cq_L_122]
  have e2 : cq_L_122.2.2.1 = mu_L_122 := by dsimp only [cq_L_122]
  have e3 : cq_L_122.1 = 1420 := by dsimp only [cq_L_122]
  rw [e1, e2, e3]
  exact rf_pcs (l := al_L_122) 0 ck_L_c_122 (List.isEmpty_iff.mp ck_L_n_122)
theorem ck_L_d_123 : ∀ alt ∈ cq_L_123.2.2.2, rf_run nm_cl nm_ct en_xs 8 xx_L kc_L cu_L po_L (some .boolean) 1 0 98 16364 (some cq_L_123.2.2.1) 5000 true cq_L_123.1 alt = true := by
  have e1 : cq_L_123.2.2.2 = al_L_123 := by dsimp only [cq_L_123]
  have e2 : cq_L_123.2.2.1 = mu_L_123 := by dsimp only [cq_L_123]
  have e3 : cq_L_123.1 = 1420 := by dsimp only [cq_L_123]
  rw [e1, e2, e3]
  exact rf_pcs (l := al_L_123) 0 ck_L_c_123 (List.isEmpty_iff.mp ck_L_n_123)
theorem ck_L_d_124 : ∀ alt ∈ cq_L_124.2.2.2, rf_run nm_cl nm_ct en_xs 8 xx_L kc_L cu_L po_L (some .boolean) 1 0 98 16364 (some cq_L_124.2.2.1) 5000 true cq_L_124.1 alt = true := by
  have e1 : cq_L_124.2.2.2 = al_L_124 := by dsimp only [cq_L_124]
  have e2 : cq_L_124.2.2.1 = mu_L_124 := by dsimp only [cq_L_124]
  have e3 : cq_L_124.1 = 1420 := by dsimp only [cq_L_124]
  rw [e1, e2, e3]
  exact rf_pcs (l := al_L_124) 0 ck_L_c_124 (List.isEmpty_iff.mp ck_L_n_124)
theorem ck_L_d_125 : ∀ alt ∈ cq_L_125.2.2.2, rf_run nm_cl nm_ct en_xs 8 xx_L kc_L cu_L po_L (some .boolean) 1 0 98 16364 (some cq_L_125.2.2.1) 5000 true cq_L_125.1 alt = true := by
  have e1 : cq_L_125.2.2.2 = al_L_125 := by dsimp only [cq_L_125]
  have e2 : cq_L_125.2.2.1 = mu_L_125 := by dsimp only [cq_L_125]
  have e3 : cq_L_125.1 = 1420 := by dsimp only [cq_L_125]
  rw [e1, e2, e3]
  exact rf_pcs (l := al_L_125) 0 ck_L_c_125 (List.isEmpty_iff.mp ck_L_n_125)
theorem ck_L_d_126 : ∀ alt ∈ cq_L_126.2.2.2, rf_run nm_cl nm_ct en_xs 8 xx_L kc_L cu_L po_L (some .boolean) 1 0 98 16364 (some cq_L_126.2.2.1) 5000 true cq_L_126.1 alt = true := by
  have e1 : cq_L_126.2.2.2 = al_L_126 := by dsimp only [cq_L_126]
  have e2 : cq_L_126.2.2.1 = mu_L_126 := by dsimp only [cq_L_126]
  have e3 : cq_L_126.1 = 1420 := by dsimp only [cq_L_126]
  rw [e1, e2, e3]
  exact rf_pcs (l := al_L_126) 0 ck_L_c_126 (List.isEmpty_iff.mp ck_L_n_126)
theorem ck_L_d_127 : ∀ alt ∈ cq_L_127.2.2.2, rf_run nm_cl nm_ct en_xs 8 xx_L kc_L cu_L po_L (some .boolean) 1 0 98 16364 (some cq_L_127.2.2.1) 5000 true cq_L_127.1 alt = true := by
  have e1 : cq_L_127.2.2.2 = al_L_127 := by dsimp only [cq_L_127]
  have e2 : cq_L_127.2.2.1 = mu_L_127 := by dsimp only [cq_L_127]
  have e3 : cq_L_127.1 = 1420 := by dsimp only [cq_L_127]
  rw [e1, e2, e3]
  exact rf_pcs (l := al_L_127) 0 ck_L_c_127 (List.isEmpty_iff.mp ck_L_n_127)
theorem ck_L_d_128 : ∀ alt ∈ cq_L_128.2.2.2, rf_run nm_cl nm_ct en_xs 8 xx_L kc_L cu_L po_L (some .boolean) 1 0 98 16364 (some cq_L_128.2.2.1) 5000 true cq_L_128.1 alt = true := by
  have e1 : cq_L_128.2.2.2 = al_L_128 := by dsimp only [cq_L_128]
  have e2 : cq_L_128.2.2.1 = mu_L_128 := by dsimp only [cq_L_128]
  have e3 : cq_L_128.1 = 1420 := by dsimp only [cq_L_128]
  rw [e1, e2, e3]
  exact rf_pcs (l := al_L_128) 0 ck_L_c_128 (List.isEmpty_iff.mp ck_L_n_128)
theorem ck_L_d_129 : ∀ alt ∈ cq_L_129.2.2.2, rf_run nm_cl nm_ct en_xs 8 xx_L kc_L cu_L po_L (some .boolean) 1 0 98 16364 (some cq_L_129.2.2.1) 5000 true cq_L_129.1 alt = true := by
  have e1 : cq_L_129.2.2.2 = al_L_129 := by dsimp only [cq_L_129]
  have e2 : cq_L_129.2.2.1 = mu_L_129 := by dsimp only [cq_L_129]
  have e3 : cq_L_129.1 = 1420 := by dsimp only [cq_L_129]
  rw [e1, e2, e3]
  exact rf_pcs (l := al_L_129) 0 ck_L_c_129 (List.isEmpty_iff.mp ck_L_n_129)
theorem ck_L_d_130 : ∀ alt ∈ cq_L_130.2.2.2, rf_run nm_cl nm_ct en_xs 8 xx_L kc_L cu_L po_L (some .boolean) 1 0 98 16364 (some cq_L_130.2.2.1) 5000 true cq_L_130.1 alt = true := by
  have e1 : cq_L_130.2.2.2 = al_L_130 := by dsimp only [cq_L_130]
  have e2 : cq_L_130.2.2.1 = mu_L_130 := by dsimp only [cq_L_130]
  have e3 : cq_L_130.1 = 1420 := by dsimp only [cq_L_130]
  rw [e1, e2, e3]
  exact rf_pcs (l := al_L_130) 0 ck_L_c_130 (List.isEmpty_iff.mp ck_L_n_130)
theorem ck_L_d_131 : ∀ alt ∈ cq_L_131.2.2.2, rf_run nm_cl nm_ct en_xs 8 xx_L kc_L cu_L po_L (some .boolean) 1 0 98 16364 (some cq_L_131.2.2.1) 5000 true cq_L_131.1 alt = true := by
  have e1 : cq_L_131.2.2.2 = al_L_131 := by dsimp only [cq_L_131]
  have e2 : cq_L_131.2.2.1 = mu_L_131 := by dsimp only [cq_L_131]
  have e3 : cq_L_131.1 = 1420 := by dsimp only [cq_L_131]
  rw [e1, e2, e3]
  exact rf_pcs (l := al_L_131) 0 ck_L_c_131 (List.isEmpty_iff.mp ck_L_n_131)
theorem ck_L_d_132 : ∀ alt ∈ cq_L_132.2.2.2, rf_run nm_cl nm_ct en_xs 8 xx_L kc_L cu_L po_L (some .boolean) 1 0 98 16364 (some cq_L_132.2.2.1) 5000 true cq_L_132.1 alt = true := by
  have e1 : cq_L_132.2.2.2 = al_L_132 := by dsimp only [cq_L_132]
  have e2 : cq_L_132.2.2.1 = mu_L_132 := by dsimp only [cq_L_132]
  have e3 : cq_L_132.1 = 1420 := by dsimp only [cq_L_132]
  rw [e1, e2, e3]
  exact rf_pcs (l := al_L_132) 0 ck_L_c_132 (List.isEmpty_iff.mp ck_L_n_132)
theorem ck_L_d_133 : ∀ alt ∈ cq_L_133.2.2.2, rf_run nm_cl nm_ct en_xs 8 xx_L kc_L cu_L po_L (some .boolean) 1 0 98 16364 (some cq_L_133.2.2.1) 5000 true cq_L_133.1 alt = true := by
  have e1 : cq_L_133.2.2.2 = al_L_133 := by dsimp only [cq_L_133]
  have e2 : cq_L_133.2.2.1 = mu_L_133 := by dsimp only [cq_L_133]
  have e3 : cq_L_133.1 = 1420 := by dsimp only [cq_L_133]
  rw [e1, e2, e3]
  exact rf_pcs (l := al_L_133) 0 ck_L_c_133 (List.isEmpty_iff.mp ck_L_n_133)
theorem ck_L_d_134 : ∀ alt ∈ cq_L_134.2.2.2, rf_run nm_cl nm_ct en_xs 8 xx_L kc_L cu_L po_L (some .boolean) 1 0 98 16364 (some cq_L_134.2.2.1) 5000 true cq_L_134.1 alt = true := by
  have e1 : cq_L_134.2.2.2 = al_L_134 := by dsimp only [cq_L_134]
  have e2 : cq_L_134.2.2.1 = mu_L_134 := by dsimp only [cq_L_134]
  have e3 : cq_L_134.1 = 1420 := by dsimp only [cq_L_134]
  rw [e1, e2, e3]
  exact rf_pcs (l := al_L_134) 1 ck_L_c_134 (List.isEmpty_iff.mp ck_L_n_134)
theorem ck_L_d_135 : ∀ alt ∈ cq_L_135.2.2.2, rf_run nm_cl nm_ct en_xs 8 xx_L kc_L cu_L po_L (some .boolean) 1 0 98 16364 (some cq_L_135.2.2.1) 5000 true cq_L_135.1 alt = true := by
  have e1 : cq_L_135.2.2.2 = al_L_135 := by dsimp only [cq_L_135]
  have e2 : cq_L_135.2.2.1 = mu_L_135 := by dsimp only [cq_L_135]
  have e3 : cq_L_135.1 = 1420 := by dsimp only [cq_L_135]
  rw [e1, e2, e3]
  exact rf_pcs (l := al_L_135) 0 ck_L_c_135 (List.isEmpty_iff.mp ck_L_n_135)
theorem ck_L_d_136 : ∀ alt ∈ cq_L_136.2.2.2, rf_run nm_cl nm_ct en_xs 8 xx_L kc_L cu_L po_L (some .boolean) 1 0 98 16364 (some cq_L_136.2.2.1) 5000 true cq_L_136.1 alt = true := by
  have e1 : cq_L_136.2.2.2 = al_L_136 := by dsimp only [cq_L_136]
  have e2 : cq_L_136.2.2.1 = mu_L_136 := by dsimp only [cq_L_136]
  have e3 : cq_L_136.1 = 1420 := by dsimp only [cq_L_136]
  rw [e1, e2, e3]
  exact rf_pcs (l := al_L_136) 0 ck_L_c_136 (List.isEmpty_iff.mp ck_L_n_136)
theorem ck_L_d_137 : ∀ alt ∈ cq_L_137.2.2.2, rf_run nm_cl nm_ct en_xs 8 xx_L kc_L cu_L po_L (some .boolean) 1 0 98 16364 (some cq_L_137.2.2.1) 5000 true cq_L_137.1 alt = true := by
  have e1 : cq_L_137.2.2.2 = al_L_137 := by dsimp only [cq_L_137]
  have e2 : cq_L_137.2.2.1 = mu_L_137 := by dsimp only [cq_L_137]
  have e3 : cq_L_137.1 = 1420 := by dsimp only [cq_L_137]
  rw [e1, e2, e3]
  exact rf_pcs (l := al_L_137) 0 ck_L_c_137 (List.isEmpty_iff.mp ck_L_n_137)
theorem ck_L_d_138 : ∀ alt ∈ cq_L_138.2.2.2, rf_run nm_cl nm_ct en_xs 8 xx_L kc_L cu_L po_L (some .boolean) 1 0 98 16364 (some cq_L_138.2.2.1) 5000 true cq_L_138.1 alt = true := by
  have e1 : cq_L_138.2.2.2 = al_L_138 := by dsimp only [cq_L_138]
  have e2 : cq_L_138.2.2.1 = mu_L_138 := by dsimp only [cq_L_138]
  have e3 : cq_L_138.1 = 1420 := by dsimp only [cq_L_138]
  rw [e1, e2, e3]
  exact rf_pcs (l := al_L_138) 0 ck_L_c_138 (List.isEmpty_iff.mp ck_L_n_138)
theorem ck_L_d_139 : ∀ alt ∈ cq_L_139.2.2.2, rf_run nm_cl nm_ct en_xs 8 xx_L kc_L cu_L po_L (some .boolean) 1 0 98 16364 (some cq_L_139.2.2.1) 5000 true cq_L_139.1 alt = true := by
  have e1 : cq_L_139.2.2.2 = al_L_139 := by dsimp only [cq_L_139]
  have e2 : cq_L_139.2.2.1 = mu_L_139 := by dsimp only [cq_L_139]
  have e3 : cq_L_139.1 = 1420 := by dsimp only [cq_L_139]
  rw [e1, e2, e3]
  exact rf_pcs (l := al_L_139) 0 ck_L_c_139 (List.isEmpty_iff.mp ck_L_n_139)
theorem ck_L_d_140 : ∀ alt ∈ cq_L_140.2.2.2, rf_run nm_cl nm_ct en_xs 8 xx_L kc_L cu_L po_L (some .boolean) 1 0 98 16364 (some cq_L_140.2.2.1) 5000 true cq_L_140.1 alt = true := by
  have e1 : cq_L_140.2.2.2 = al_L_140 := by dsimp only [cq_L_140]
  have e2 : cq_L_140.2.2.1 = mu_L_140 := by dsimp only [cq_L_140]
  have e3 : cq_L_140.1 = 1420 := by dsimp only [cq_L_140]
  rw [e1, e2, e3]
  exact rf_pcs (l := al_L_140) 0 ck_L_c_140 (List.isEmpty_iff.mp ck_L_n_140)
theorem ck_L_d_141 : ∀ alt ∈ cq_L_141.2.2.2, rf_run nm_cl nm_ct en_xs 8 xx_L kc_L cu_L po_L (some .boolean) 1 0 98 16364 (some cq_L_141.2.2.1) 5000 true cq_L_141.1 alt = true := by
  have e1 : cq_L_141.2.2.2 = al_L_141 := by dsimp only [cq_L_141]
  have e2 : cq_L_141.2.2.1 = mu_L_141 := by dsimp only [cq_L_141]
  have e3 : cq_L_141.1 = 1420 := by dsimp only [cq_L_141]
  rw [e1, e2, e3]
  exact rf_pcs (l := al_L_141) 0 ck_L_c_141 (List.isEmpty_iff.mp ck_L_n_141)
theorem ck_L_d_142 : ∀ alt ∈ cq_L_142.2.2.2, rf_run nm_cl nm_ct en_xs 8 xx_L kc_L cu_L po_L (some .boolean) 1 0 98 16364 (some cq_L_142.2.2.1) 5000 true cq_L_142.1 alt = true := by
  have e1 : cq_L_142.2.2.2 = al_L_142 := by dsimp only [cq_L_142]
  have e2 : cq_L_142.2.2.1 = mu_L_142 := by dsimp only [cq_L_142]
  have e3 : cq_L_142.1 = 1420 := by dsimp only [cq_L_142]
  rw [e1, e2, e3]
  exact rf_pcs (l := al_L_142) 0 ck_L_c_142 (List.isEmpty_iff.mp ck_L_n_142)
theorem ck_L_d_143 : ∀ alt ∈ cq_L_143.2.2.2, rf_run nm_cl nm_ct en_xs 8 xx_L kc_L cu_L po_L (some .boolean) 1 0 98 16364 (some cq_L_143.2.2.1) 5000 true cq_L_143.1 alt = true := by
  have e1 : cq_L_143.2.2.2 = al_L_143 := by dsimp only [cq_L_143]
  have e2 : cq_L_143.2.2.1 = mu_L_143 := by dsimp only [cq_L_143]
  have e3 : cq_L_143.1 = 1420 := by dsimp only [cq_L_143]
  rw [e1, e2, e3]
  exact rf_pcs (l := al_L_143) 0 ck_L_c_143 (List.isEmpty_iff.mp ck_L_n_143)
theorem ck_L_d_144 : ∀ alt ∈ cq_L_144.2.2.2, rf_run nm_cl nm_ct en_xs 8 xx_L kc_L cu_L po_L (some .boolean) 1 0 98 16364 (some cq_L_144.2.2.1) 5000 true cq_L_144.1 alt = true := by
  have e1 : cq_L_144.2.2.2 = al_L_144 := by dsimp only [cq_L_144]
  have e2 : cq_L_144.2.2.1 = mu_L_144 := by dsimp only [cq_L_144]
  have e3 : cq_L_144.1 = 1420 := by dsimp only [cq_L_144]
  rw [e1, e2, e3]
  exact rf_pcs (l := al_L_144) 1 ck_L_c_144 (List.isEmpty_iff.mp ck_L_n_144)
theorem ck_L_d_145 : ∀ alt ∈ cq_L_145.2.2.2, rf_run nm_cl nm_ct en_xs 8 xx_L kc_L cu_L po_L (some .boolean) 1 0 98 16364 (some cq_L_145.2.2.1) 5000 true cq_L_145.1 alt = true := by
  have e1 : cq_L_145.2.2.2 = al_L_145 := by dsimp only [cq_L_145]
  have e2 : cq_L_145.2.2.1 = mu_L_145 := by dsimp only [cq_L_145]
  have e3 : cq_L_145.1 = 1420 := by dsimp only [cq_L_145]
  rw [e1, e2, e3]
  exact rf_pcs (l := al_L_145) 1 ck_L_c_145 (List.isEmpty_iff.mp ck_L_n_145)
theorem ck_L_d_146 : ∀ alt ∈ cq_L_146.2.2.2, rf_run nm_cl nm_ct en_xs 8 xx_L kc_L cu_L po_L (some .boolean) 1 0 98 16364 (some cq_L_146.2.2.1) 5000 true cq_L_146.1 alt = true := by
  have e1 : cq_L_146.2.2.2 = al_L_146 := by dsimp only [cq_L_146]
  have e2 : cq_L_146.2.2.1 = mu_L_146 := by dsimp only [cq_L_146]
  have e3 : cq_L_146.1 = 1420 := by dsimp only [cq_L_146]
  rw [e1, e2, e3]
  exact rf_pcs (l := al_L_146) 1 ck_L_c_146 (List.isEmpty_iff.mp ck_L_n_146)
theorem ck_L_d_147 : ∀ alt ∈ cq_L_147.2.2.2, rf_run nm_cl nm_ct en_xs 8 xx_L kc_L cu_L po_L (some .boolean) 1 0 98 16364 (some cq_L_147.2.2.1) 5000 true cq_L_147.1 alt = true := by
  have e1 : cq_L_147.2.2.2 = al_L_147 := by dsimp only [cq_L_147]
  have e2 : cq_L_147.2.2.1 = mu_L_147 := by dsimp only [cq_L_147]
  have e3 : cq_L_147.1 = 1420 := by dsimp only [cq_L_147]
  rw [e1, e2, e3]
  exact rf_pcs (l := al_L_147) 0 ck_L_c_147 (List.isEmpty_iff.mp ck_L_n_147)
theorem ck_L_d_148 : ∀ alt ∈ cq_L_148.2.2.2, rf_run nm_cl nm_ct en_xs 8 xx_L kc_L cu_L po_L (some .boolean) 1 0 98 16364 (some cq_L_148.2.2.1) 5000 true cq_L_148.1 alt = true := by
  have e1 : cq_L_148.2.2.2 = al_L_148 := by dsimp only [cq_L_148]
  have e2 : cq_L_148.2.2.1 = mu_L_148 := by dsimp only [cq_L_148]
  have e3 : cq_L_148.1 = 1420 := by dsimp only [cq_L_148]
  rw [e1, e2, e3]
  exact rf_pcs (l := al_L_148) 0 ck_L_c_148 (List.isEmpty_iff.mp ck_L_n_148)
theorem ck_L_d_149 : ∀ alt ∈ cq_L_149.2.2.2, rf_run nm_cl nm_ct en_xs 8 xx_L kc_L cu_L po_L (some .boolean) 1 0 98 16364 (some cq_L_149.2.2.1) 5000 true cq_L_149.1 alt = true := by
  have e1 : cq_L_149.2.2.2 = al_L_149 := by dsimp only [cq_L_149]
  have e2 : cq_L_149.2.2.1 = mu_L_149 := by dsimp only [cq_L_149]
  have e3 : cq_L_149.1 = 1420 := by dsimp only [cq_L_149]
  rw [e1, e2, e3]
  exact rf_pcs (l := al_L_149) 0 ck_L_c_149 (List.isEmpty_iff.mp ck_L_n_149)
theorem ck_L_d_150 : ∀ alt ∈ cq_L_150.2.2.2, rf_run nm_cl nm_ct en_xs 8 xx_L kc_L cu_L po_L (some .boolean) 1 0 98 16364 (some cq_L_150.2.2.1) 5000 true cq_L_150.1 alt = true := by
  have e1 : cq_L_150.2.2.2 = al_L_150 := by dsimp only [cq_L_150]
  have e2 : cq_L_150.2.2.1 = mu_L_150 := by dsimp only [cq_L_150]
  have e3 : cq_L_150.1 = 1420 := by dsimp only [cq_L_150]
  rw [e1, e2, e3]
  exact rf_pcs (l := al_L_150) 0 ck_L_c_150 (List.isEmpty_iff.mp ck_L_n_150)
theorem ck_L_d_151 : ∀ alt ∈ cq_L_151.2.2.2, rf_run nm_cl nm_ct en_xs 8 xx_L kc_L cu_L po_L (some .boolean) 1 0 98 16364 (some cq_L_151.2.2.1) 5000 true cq_L_151.1 alt = true := by
  have e1 : cq_L_151.2.2.2 = al_L_151 := by dsimp only [cq_L_151]
  have e2 : cq_L_151.2.2.1 = mu_L_151 := by dsimp only [cq_L_151]
  have e3 : cq_L_151.1 = 1420 := by dsimp only [cq_L_151]
  rw [e1, e2, e3]
  exact rf_pcs (l := al_L_151) 0 ck_L_c_151 (List.isEmpty_iff.mp ck_L_n_151)
theorem ck_L_d_152 : ∀ alt ∈ cq_L_152.2.2.2, rf_run nm_cl nm_ct en_xs 8 xx_L kc_L cu_L po_L (some .boolean) 1 0 98 16364 (some cq_L_152.2.2.1) 5000 true cq_L_152.1 alt = true := by
  have e1 : cq_L_152.2.2.2 = al_L_152 := by dsimp only [cq_L_152]
  have e2 : cq_L_152.2.2.1 = mu_L_152 := by dsimp only [cq_L_152]
  have e3 : cq_L_152.1 = 1420 := by dsimp only [cq_L_152]
  rw [e1, e2, e3]
  exact rf_pcs (l := al_L_152) 0 ck_L_c_152 (List.isEmpty_iff.mp ck_L_n_152)
theorem ck_L_d_153 : ∀ alt ∈ cq_L_153.2.2.2, rf_run nm_cl nm_ct en_xs 8 xx_L kc_L cu_L po_L (some .boolean) 1 0 98 16364 (some cq_L_153.2.2.1) 5000 true cq_L_153.1 alt = true := by
  have e1 : cq_L_153.2.2.2 = al_L_153 := by dsimp only [cq_L_153]
  have e2 : cq_L_153.2.2.1 = mu_L_153 := by dsimp only [cq_L_153]
  have e3 : cq_L_153.1 = 1420 := by dsimp only [cq_L_153]
  rw [e1, e2, e3]
  exact rf_pcs (l := al_L_153) 0 ck_L_c_153 (List.isEmpty_iff.mp ck_L_n_153)
theorem ck_L_d_154 : ∀ alt ∈ cq_L_154.2.2.2, rf_run nm_cl nm_ct en_xs 8 xx_L kc_L cu_L po_L (some .boolean) 1 0 98 16364 (some cq_L_154.2.2.1) 5000 true cq_L_154.1 alt = true := by
  have e1 : cq_L_154.2.2.2 = al_L_154 := by dsimp only [cq_L_154]
  have e2 : cq_L_154.2.2.1 = mu_L_154 := by dsimp only [cq_L_154]
  have e3 : cq_L_154.1 = 1420 := by dsimp only [cq_L_154]
  rw [e1, e2, e3]
  exact rf_pcs (l := al_L_154) 0 ck_L_c_154 (List.isEmpty_iff.mp ck_L_n_154)
theorem ck_L_d_155 : ∀ alt ∈ cq_L_155.2.2.2, rf_run nm_cl nm_ct en_xs 8 xx_L kc_L cu_L po_L (some .boolean) 1 0 98 16364 (some cq_L_155.2.2.1) 5000 true cq_L_155.1 alt = true := by
  have e1 : cq_L_155.2.2.2 = al_L_155 := by dsimp only [cq_L_155]
  have e2 : cq_L_155.2.2.1 = mu_L_155 := by dsimp only [cq_L_155]
  have e3 : cq_L_155.1 = 1420 := by dsimp only [cq_L_155]
  rw [e1, e2, e3]
  exact rf_pcs (l := al_L_155) 1 ck_L_c_155 (List.isEmpty_iff.mp ck_L_n_155)
theorem ck_L_d_156 : ∀ alt ∈ cq_L_156.2.2.2, rf_run nm_cl nm_ct en_xs 8 xx_L kc_L cu_L po_L (some .boolean) 1 0 98 16364 (some cq_L_156.2.2.1) 5000 true cq_L_156.1 alt = true := by
  have e1 : cq_L_156.2.2.2 = al_L_156 := by dsimp only [cq_L_156]
  have e2 : cq_L_156.2.2.1 = mu_L_156 := by dsimp only [cq_L_156]
  have e3 : cq_L_156.1 = 1420 := by dsimp only [cq_L_156]
  rw [e1, e2, e3]
  exact rf_pcs (l := al_L_156) 0 ck_L_c_156 (List.isEmpty_iff.mp ck_L_n_156)
theorem ck_L_d_157 : ∀ alt ∈ cq_L_157.2.2.2, rf_run nm_cl nm_ct en_xs 8 xx_L kc_L cu_L po_L (some .boolean) 1 0 98 16364 (some cq_L_157.2.2.1) 5000 true cq_L_157.1 alt = true := by
  have e1 : cq_L_157.2.2.2 = al_L_157 := by dsimp only [cq_L_157]
  have e2 : cq_L_157.2.2.1 = mu_L_157 := by dsimp only [cq_L_157]
  have e3 : cq_L_157.1 = 1420 := by dsimp only [cq_L_157]
  rw [e1, e2, e3]
  exact rf_pcs (l := al_L_157) 1 ck_L_c_157 (List.isEmpty_iff.mp ck_L_n_157)
theorem ck_L_d_158 : ∀ alt ∈ cq_L_158.2.2.2, rf_run nm_cl nm_ct en_xs 8 xx_L kc_L cu_L po_L (some .boolean) 1 0 98 16364 (some cq_L_158.2.2.1) 5000 true cq_L_158.1 alt = true := by
  have e1 : cq_L_158.2.2.2 = al_L_158 := by dsimp only [cq_L_158]
  have e2 : cq_L_158.2.2.1 = mu_L_158 := by dsimp only [cq_L_158]
  have e3 : cq_L_158.1 = 1420 := by dsimp only [cq_L_158]
  rw [e1, e2, e3]
  exact rf_pcs (l := al_L_158) 0 ck_L_c_158 (List.isEmpty_iff.mp ck_L_n_158)
theorem ck_L_d_159 : ∀ alt ∈ cq_L_159.2.2.2, rf_run nm_cl nm_ct en_xs 8 xx_L kc_L cu_L po_L (some .boolean) 1 0 98 16364 (some cq_L_159.2.2.1) 5000 true cq_L_159.1 alt = true := by
  have e1 : cq_L_159.2.2.2 = al_L_159 := by dsimp only [cq_L_159]
  have e2 : cq_L_159.2.2.1 = mu_L_159 := by dsimp only [cq_L_159]
  have e3 : cq_L_159.1 = 1420 := by dsimp only [cq_L_159]
  rw [e1, e2, e3]
  exact rf_pcs (l := al_L_159) 1 ck_L_c_159 (List.isEmpty_iff.mp ck_L_n_159)
theorem ck_L_d_160 : ∀ alt ∈ cq_L_160.2.2.2, rf_run nm_cl nm_ct en_xs 8 xx_L kc_L cu_L po_L (some .boolean) 1 0 98 16364 (some cq_L_160.2.2.1) 5000 true cq_L_160.1 alt = true := by
  have e1 : cq_L_160.2.2.2 = al_L_160 := by dsimp only [cq_L_160]
  have e2 : cq_L_160.2.2.1 = mu_L_160 := by dsimp only [cq_L_160]
  have e3 : cq_L_160.1 = 1420 := by dsimp only [cq_L_160]
  rw [e1, e2, e3]
  exact rf_pcs (l := al_L_160) 0 ck_L_c_160 (List.isEmpty_iff.mp ck_L_n_160)
theorem ck_L_d_161 : ∀ alt ∈ cq_L_161.2.2.2, rf_run nm_cl nm_ct en_xs 8 xx_L kc_L cu_L po_L (some .boolean) 1 0 98 16364 (some cq_L_161.2.2.1) 5000 true cq_L_161.1 alt = true := by
  have e1 : cq_L_161.2.2.2 = al_L_161 := by dsimp only [cq_L_161]
  have e2 : cq_L_161.2.2.1 = mu_L_161 := by dsimp only [cq_L_161]
  have e3 : cq_L_161.1 = 1420 := by dsimp only [cq_L_161]
  rw [e1, e2, e3]
  exact rf_pcs (l := al_L_161) 0 ck_L_c_161 (List.isEmpty_iff.mp ck_L_n_161)
theorem ck_L_d_162 : ∀ alt ∈ cq_L_162.2.2.2, rf_run nm_cl nm_ct en_xs 8 xx_L kc_L cu_L po_L (some .boolean) 1 0 98 16364 (some cq_L_162.2.2.1) 5000 true cq_L_162.1 alt = true := by
  have e1 : cq_L_162.2.2.2 = al_L_162 := by dsimp only [cq_L_162]
  have e2 : cq_L_162.2.2.1 = mu_L_162 := by dsimp only [cq_L_162]
  have e3 : cq_L_162.1 = 1420 := by dsimp only [cq_L_162]
  rw [e1, e2, e3]
  exact rf_pcs (l := al_L_162) 0 ck_L_c_162 (List.isEmpty_iff.mp ck_L_n_162)
theorem ck_L_d_163 : ∀ alt ∈ cq_L_163.2.2.2, rf_run nm_cl nm_ct en_xs 8 xx_L kc_L cu_L po_L (some .boolean) 1 0 98 16364 (some cq_L_163.2.2.1) 5000 true cq_L_163.1 alt = true := by
  have e1 : cq_L_163.2.2.2 = al_L_163 := by dsimp only [cq_L_163]
  have e2 : cq_L_163.2.2.1 = mu_L_163 := by dsimp only [cq_L_163]
  have e3 : cq_L_163.1 = 1420 := by dsimp only [cq_L_163]
  rw [e1, e2, e3]
  exact rf_pcs (l := al_L_163) 0 ck_L_c_163 (List.isEmpty_iff.mp ck_L_n_163)
theorem ck_L_d_164 : ∀ alt ∈ cq_L_164.2.2.2, rf_run nm_cl nm_ct en_xs 8 xx_L kc_L cu_L po_L (some .boolean) 1 0 98 16364 (some cq_L_164.2.2.1) 5000 true cq_L_164.1 alt = true := by
  have e1 : cq_L_164.2.2.2 = al_L_164 := by dsimp only [cq_L_164]
  have e2 : cq_L_164.2.2.1 = mu_L_164 := by dsimp only [cq_L_164]
  have e3 : cq_L_164.1 = 1420 := by dsimp only [cq_L_164]
  rw [e1, e2, e3]
  exact rf_pcs (l := al_L_164) 1 ck_L_c_164 (List.isEmpty_iff.mp ck_L_n_164)
theorem ck_L_d_165 : ∀ alt ∈ cq_L_165.2.2.2, rf_run nm_cl nm_ct en_xs 8 xx_L kc_L cu_L po_L (some .boolean) 1 0 98 16364 (some cq_L_165.2.2.1) 5000 true cq_L_165.1 alt = true := by
  have e1 : cq_L_165.2.2.2 = al_L_165 := by dsimp only [cq_L_165]
  have e2 : cq_L_165.2.2.1 = mu_L_165 := by dsimp only [cq_L_165]
  have e3 : cq_L_165.1 = 1420 := by dsimp only [cq_L_165]
  rw [e1, e2, e3]
  exact rf_pcs (l := al_L_165) 0 ck_L_c_165 (List.isEmpty_iff.mp ck_L_n_165)
theorem ck_L_d_166 : ∀ alt ∈ cq_L_166.2.2.2, rf_run nm_cl nm_ct en_xs 8 xx_L kc_L cu_L po_L (some .boolean) 1 0 98 16364 (some cq_L_166.2.2.1) 5000 true cq_L_166.1 alt = true := by
  have e1 : cq_L_166.2.2.2 = al_L_166 := by dsimp only [cq_L_166]
  have e2 : cq_L_166.2.2.1 = mu_L_166 := by dsimp only [cq_L_166]
  have e3 : cq_L_166.1 = 1420 := by dsimp only [cq_L_166]
  rw [e1, e2, e3]
  exact rf_pcs (l := al_L_166) 1 ck_L_c_166 (List.isEmpty_iff.mp ck_L_n_166)
theorem ck_L_d_167 : ∀ alt ∈ cq_L_167.2.2.2, rf_run nm_cl nm_ct en_xs 8 xx_L kc_L cu_L po_L (some .boolean) 1 0 98 16364 (some cq_L_167.2.2.1) 5000 true cq_L_167.1 alt = true := by
  have e1 : cq_L_167.2.2.2 = al_L_167 := by dsimp only [cq_L_167]
  have e2 : cq_L_167.2.2.1 = mu_L_167 := by dsimp only [cq_L_167]
  have e3 : cq_L_167.1 = 1420 := by dsimp only [cq_L_167]
  rw [e1, e2, e3]
  exact rf_pcs (l := al_L_167) 0 ck_L_c_167 (List.isEmpty_iff.mp ck_L_n_167)
theorem ck_L_d_168 : ∀ alt ∈ cq_L_168.2.2.2, rf_run nm_cl nm_ct en_xs 8 xx_L kc_L cu_L po_L (some .boolean) 1 0 98 16364 (some cq_L_168.2.2.1) 5000 true cq_L_168.1 alt = true := by
  have e1 : cq_L_168.2.2.2 = al_L_168 := by dsimp only [cq_L_168]
  have e2 : cq_L_168.2.2.1 = mu_L_168 := by dsimp only [cq_L_168]
  have e3 : cq_L_168.1 = 1420 := by dsimp only [cq_L_168]
  rw [e1, e2, e3]
  exact rf_pcs (l := al_L_168) 0 ck_L_c_168 (List.isEmpty_iff.mp ck_L_n_168)
theorem ck_L_d_169 : ∀ alt ∈ cq_L_169.2.2.2, rf_run nm_cl nm_ct en_xs 8 xx_L kc_L cu_L po_L (some .boolean) 1 0 98 16364 (some cq_L_169.2.2.1) 5000 true cq_L_169.1 alt = true := by
  have e1 : cq_L_169.2.2.2 = al_L_169 := by dsimp only [cq_L_169]
  have e2 : cq_L_169.2.2.1 = mu_L_169 := by dsimp only [cq_L_169]
  have e3 : cq_L_169.1 = 1420 := by dsimp only [cq_L_169]
  rw [e1, e2, e3]
  exact rf_pcs (l := al_L_169) 0 ck_L_c_169 (List.isEmpty_iff.mp ck_L_n_169)
theorem ck_L_d_170 : ∀ alt ∈ cq_L_170.2.2.2, rf_run nm_cl nm_ct en_xs 8 xx_L kc_L cu_L po_L (some .boolean) 1 0 98 16364 (some cq_L_170.2.2.1) 5000 true cq_L_170.1 alt = true := by
  have e1 : cq_L_170.2.2.2 = al_L_170 := by dsimp only [cq_L_170]
  have e2 : cq_L_170.2.2.1 = mu_L_170 := by dsimp only [cq_L_170]
  have e3 : cq_L_170.1 = 1420 := by dsimp only [cq_L_170]
  rw [e1, e2, e3]
  exact rf_pcs (l := al_L_170) 0 ck_L_c_170 (List.isEmpty_iff.mp ck_L_n_170)
theorem ck_L_d_171 : ∀ alt ∈ cq_L_171.2.2.2, rf_run nm_cl nm_ct en_xs 8 xx_L kc_L cu_L po_L (some .boolean) 1 0 98 16364 (some cq_L_171.2.2.1) 5000 true cq_L_171.1 alt = true := by
  have e1 : cq_L_171.2.2.2 = al_L_171 := by dsimp only [cq_L_171]
  have e2 : cq_L_171.2.2.1 = mu_L_171 := by dsimp only [cq_L_171]
  have e3 : cq_L_171.1 = 1420 := by dsimp only [cq_L_171]
  rw [e1, e2, e3]
  exact rf_pcs (l := al_L_171) 0 ck_L_c_171 (List.isEmpty_iff.mp ck_L_n_171)
theorem ck_L_d_172 : ∀ alt ∈ cq_L_172.2.2.2, rf_run nm_cl nm_ct en_xs 8 xx_L kc_L cu_L po_L (some .boolean) 1 0 98 16364 (some cq_L_172.2.2.1) 5000 true cq_L_172.1 alt = true := by
  have e1 : cq_L_172.2.2.2 = al_L_172 := by dsimp only [cq_L_172]
  have e2 : cq_L_172.2.2.1 = mu_L_172 := by dsimp only [cq_L_172]
  have e3 : cq_L_172.1 = 1420 := by dsimp only [cq_L_172]
  rw [e1, e2, e3]
  exact rf_pcs (l := al_L_172) 0 ck_L_c_172 (List.isEmpty_iff.mp ck_L_n_172)
theorem ck_L_d_173 : ∀ alt ∈ cq_L_173.2.2.2, rf_run nm_cl nm_ct en_xs 8 xx_L kc_L cu_L po_L (some .boolean) 1 0 98 16364 (some cq_L_173.2.2.1) 5000 true cq_L_173.1 alt = true := by
  have e1 : cq_L_173.2.2.2 = al_L_173 := by dsimp only [cq_L_173]
  have e2 : cq_L_173.2.2.1 = mu_L_173 := by dsimp only [cq_L_173]
  have e3 : cq_L_173.1 = 1420 := by dsimp only [cq_L_173]
  rw [e1, e2, e3]
  exact rf_pcs (l := al_L_173) 0 ck_L_c_173 (List.isEmpty_iff.mp ck_L_n_173)
theorem ck_L_d_174 : ∀ alt ∈ cq_L_174.2.2.2, rf_run nm_cl nm_ct en_xs 8 xx_L kc_L cu_L po_L (some .boolean) 1 0 98 16364 (some cq_L_174.2.2.1) 5000 true cq_L_174.1 alt = true := by
  have e1 : cq_L_174.2.2.2 = al_L_174 := by dsimp only [cq_L_174]
  have e2 : cq_L_174.2.2.1 = mu_L_174 := by dsimp only [cq_L_174]
  have e3 : cq_L_174.1 = 1420 := by dsimp only [cq_L_174]
  rw [e1, e2, e3]
  exact rf_pcs (l := al_L_174) 0 ck_L_c_174 (List.isEmpty_iff.mp ck_L_n_174)
theorem ck_L_d_175 : ∀ alt ∈ cq_L_175.2.2.2, rf_run nm_cl nm_ct en_xs 8 xx_L kc_L cu_L po_L (some .boolean) 1 0 98 16364 (some cq_L_175.2.2.1) 5000 true cq_L_175.1 alt = true := by
  have e1 : cq_L_175.2.2.2 = al_L_175 := by dsimp only [cq_L_175]
  have e2 : cq_L_175.2.2.1 = mu_L_175 := by dsimp only [cq_L_175]
  have e3 : cq_L_175.1 = 1420 := by dsimp only [cq_L_175]
  rw [e1, e2, e3]
  exact rf_pcs (l := al_L_175) 0 ck_L_c_175 (List.isEmpty_iff.mp ck_L_n_175)
theorem ck_L_d_176 : ∀ alt ∈ cq_L_176.2.2.2, rf_run nm_cl nm_ct en_xs 8 xx_L kc_L cu_L po_L (some .boolean) 1 0 98 16364 (some cq_L_176.2.2.1) 5000 true cq_L_176.1 alt = true := by
  have e1 : cq_L_176.2.2.2 = al_L_176 := by dsimp only [cq_L_176]
  have e2 : cq_L_176.2.2.1 = mu_L_176 := by dsimp only [cq_L_176]
  have e3 : cq_L_176.1 = 1420 := by dsimp only [cq_L_176]
  rw [e1, e2, e3]
  exact rf_pcs (l := al_L_176) 0 ck_L_c_176 (List.isEmpty_iff.mp ck_L_n_176)
theorem ck_L_d_177 : ∀ alt ∈ cq_L_177.2.2.2, rf_run nm_cl nm_ct en_xs 8 xx_L kc_L cu_L po_L (some .boolean) 1 0 98 16364 (some cq_L_177.2.2.1) 5000 true cq_L_177.1 alt = true := by
  have e1 : cq_L_177.2.2.2 = al_L_177 := by dsimp only [cq_L_177]
  have e2 : cq_L_177.2.2.1 = mu_L_177 := by dsimp only [cq_L_177]
  have e3 : cq_L_177.1 = 1420 := by dsimp only [cq_L_177]
  rw [e1, e2, e3]
  exact rf_pcs (l := al_L_177) 0 ck_L_c_177 (List.isEmpty_iff.mp ck_L_n_177)
theorem ck_L_d_178 : ∀ alt ∈ cq_L_178.2.2.2, rf_run nm_cl nm_ct en_xs 8 xx_L kc_L cu_L po_L (some .boolean) 1 0 98 16364 (some cq_L_178.2.2.1) 5000 true cq_L_178.1 alt = true := by
  have e1 : cq_L_178.2.2.2 = al_L_178 := by dsimp only [cq_L_178]
  have e2 : cq_L_178.2.2.1 = mu_L_178 := by dsimp only [cq_L_178]
  have e3 : cq_L_178.1 = 1420 := by dsimp only [cq_L_178]
  rw [e1, e2, e3]
  exact rf_pcs (l := al_L_178) 0 ck_L_c_178 (List.isEmpty_iff.mp ck_L_n_178)
theorem ck_L_d_179 : ∀ alt ∈ cq_L_179.2.2.2, rf_run nm_cl nm_ct en_xs 8 xx_L kc_L cu_L po_L (some .boolean) 1 0 98 16364 (some cq_L_179.2.2.1) 5000 true cq_L_179.1 alt = true := by
  have e1 : cq_L_179.2.2.2 = al_L_179 := by dsimp only [cq_L_179]
  have e2 : cq_L_179.2.2.1 = mu_L_179 := by dsimp only [cq_L_179]
  have e3 : cq_L_179.1 = 1420 := by dsimp only [cq_L_179]
  rw [e1, e2, e3]
  exact rf_pcs (l := al_L_179) 0 ck_L_c_179 (List.isEmpty_iff.mp ck_L_n_179)
theorem ck_L_d_180 : ∀ alt ∈ cq_L_180.2.2.2, rf_run nm_cl nm_ct en_xs 8 xx_L kc_L cu_L po_L (some .boolean) 1 0 98 16364 (some cq_L_180.2.2.1) 5000 true cq_L_180.1 alt = true := by
  have e1 : cq_L_180.2.2.2 = al_L_180 := by dsimp only [cq_L_180]
  have e2 : cq_L_180.2.2.1 = mu_L_180 := by dsimp only [cq_L_180]
  have e3 : cq_L_180.1 = 1420 := by dsimp only [cq_L_180]
  rw [e1, e2, e3]
  exact rf_pcs (l := al_L_180) 0 ck_L_c_180 (List.isEmpty_iff.mp ck_L_n_180)
theorem ck_L_d_181 : ∀ alt ∈ cq_L_181.2.2.2, rf_run nm_cl nm_ct en_xs 8 xx_L kc_L cu_L po_L (some .boolean) 1 0 98 16364 (some cq_L_181.2.2.1) 5000 true cq_L_181.1 alt = true := by
  have e1 : cq_L_181.2.2.2 = al_L_181 := by dsimp only [cq_L_181]
  have e2 : cq_L_181.2.2.1 = mu_L_181 := by dsimp only [cq_L_181]
  have e3 : cq_L_181.1 = 1420 := by dsimp only [cq_L_181]
  rw [e1, e2, e3]
  exact rf_pcs (l := al_L_181) 0 ck_L_c_181 (List.isEmpty_iff.mp ck_L_n_181)
theorem ck_L_d_182 : ∀ alt ∈ cq_L_182.2.2.2, rf_run nm_cl nm_ct en_xs 8 xx_L kc_L cu_L po_L (some .boolean) 1 0 98 16364 (some cq_L_182.2.2.1) 5000 true cq_L_182.1 alt = true := by
  have e1 : cq_L_182.2.2.2 = al_L_182 := by dsimp only [cq_L_182]
  have e2 : cq_L_182.2.2.1 = mu_L_182 := by dsimp only [cq_L_182]
  have e3 : cq_L_182.1 = 1420 := by dsimp only [cq_L_182]
  rw [e1, e2, e3]
  exact rf_pcs (l := al_L_182) 0 ck_L_c_182 (List.isEmpty_iff.mp ck_L_n_182)
theorem ck_L_d_183 : ∀ alt ∈ cq_L_183.2.2.2, rf_run nm_cl nm_ct en_xs 8 xx_L kc_L cu_L po_L (some .boolean) 1 0 98 16364 (some cq_L_183.2.2.1) 5000 true cq_L_183.1 alt = true := by
  have e1 : cq_L_183.2.2.2 = al_L_183 := by dsimp only [cq_L_183]
  have e2 : cq_L_183.2.2.1 = mu_L_183 := by dsimp only [cq_L_183]
  have e3 : cq_L_183.1 = 1420 := by dsimp only [cq_L_183]
  rw [e1, e2, e3]
  exact rf_pcs (l := al_L_183) 0 ck_L_c_183 (List.isEmpty_iff.mp ck_L_n_183)
theorem ck_L_d_184 : ∀ alt ∈ cq_L_184.2.2.2, rf_run nm_cl nm_ct en_xs 8 xx_L kc_L cu_L po_L (some .boolean) 1 0 98 16364 (some cq_L_184.2.2.1) 5000 true cq_L_184.1 alt = true := by
  have e1 : cq_L_184.2.2.2 = al_L_184 := by dsimp only [cq_L_184]
  have e2 : cq_L_184.2.2.1 = mu_L_184 := by dsimp only [cq_L_184]
  have e3 : cq_L_184.1 = 1420 := by dsimp only [cq_L_184]
  rw [e1, e2, e3]
  exact rf_pcs (l := al_L_184) 0 ck_L_c_184 (List.isEmpty_iff.mp ck_L_n_184)
theorem ck_L_d_185 : ∀ alt ∈ cq_L_185.2.2.2, rf_run nm_cl nm_ct en_xs 8 xx_L kc_L cu_L po_L (some .boolean) 1 0 98 16364 (some cq_L_185.2.2.1) 5000 true cq_L_185.1 alt = true := by
  have e1 : cq_L_185.2.2.2 = al_L_185 := by dsimp only [cq_L_185]
  have e2 : cq_L_185.2.2.1 = mu_L_185 := by dsimp only [cq_L_185]
  have e3 : cq_L_185.1 = 1420 := by dsimp only [cq_L_185]
  rw [e1, e2, e3]
  exact rf_pcs (l := al_L_185) 0 ck_L_c_185 (List.isEmpty_iff.mp ck_L_n_185)
theorem ck_L_d_186 : ∀ alt ∈ cq_L_186.2.2.2, rf_run nm_cl nm_ct en_xs 8 xx_L kc_L cu_L po_L (some .boolean) 1 0 98 16364 (some cq_L_186.2.2.1) 5000 true cq_L_186.1 alt = true := by
  have e1 : cq_L_186.2.2.2 = al_L_186 := by dsimp only [cq_L_186]
  have e2 : cq_L_186.2.2.1 = mu_L_186 := by dsimp only [cq_L_186]
  have e3 : cq_L_186.1 = 1420 := by dsimp only [cq_L_186]
  rw [e1, e2, e3]
  exact rf_pcs (l := al_L_186) 0 ck_L_c_186 (List.isEmpty_iff.mp ck_L_n_186)
theorem ck_L_d_187 : ∀ alt ∈ cq_L_187.2.2.2, rf_run nm_cl nm_ct en_xs 8 xx_L kc_L cu_L po_L (some .boolean) 1 0 98 16364 (some cq_L_187.2.2.1) 5000 true cq_L_187.1 alt = true := by
  have e1 : cq_L_187.2.2.2 = al_L_187 := by dsimp only [cq_L_187]
  have e2 : cq_L_187.2.2.1 = mu_L_187 := by dsimp only [cq_L_187]
  have e3 : cq_L_187.1 = 1420 := by dsimp only [cq_L_187]
  rw [e1, e2, e3]
  exact rf_pcs (l := al_L_187) 0 ck_L_c_187 (List.isEmpty_iff.mp ck_L_n_187)
theorem ck_L_d_188 : ∀ alt ∈ cq_L_188.2.2.2, rf_run nm_cl nm_ct en_xs 8 xx_L kc_L cu_L po_L (some .boolean) 1 0 98 16364 (some cq_L_188.2.2.1) 5000 true cq_L_188.1 alt = true := by
  have e1 : cq_L_188.2.2.2 = al_L_188 := by dsimp only [cq_L_188]
  have e2 : cq_L_188.2.2.1 = mu_L_188 := by dsimp only [cq_L_188]
  have e3 : cq_L_188.1 = 1420 := by dsimp only [cq_L_188]
  rw [e1, e2, e3]
  exact rf_pcs (l := al_L_188) 0 ck_L_c_188 (List.isEmpty_iff.mp ck_L_n_188)
theorem ck_L_d_189 : ∀ alt ∈ cq_L_189.2.2.2, rf_run nm_cl nm_ct en_xs 8 xx_L kc_L cu_L po_L (some .boolean) 1 0 98 16364 (some cq_L_189.2.2.1) 5000 true cq_L_189.1 alt = true := by
  have e1 : cq_L_189.2.2.2 = al_L_189 := by dsimp only [cq_L_189]
  have e2 : cq_L_189.2.2.1 = mu_L_189 := by dsimp only [cq_L_189]
  have e3 : cq_L_189.1 = 1420 := by dsimp only [cq_L_189]
  rw [e1, e2, e3]
  exact rf_pcs (l := al_L_189) 0 ck_L_c_189 (List.isEmpty_iff.mp ck_L_n_189)
theorem ck_L_d_190 : ∀ alt ∈ cq_L_190.2.2.2, rf_run nm_cl nm_ct en_xs 8 xx_L kc_L cu_L po_L (some .boolean) 1 0 98 16364 (some cq_L_190.2.2.1) 5000 true cq_L_190.1 alt = true := by
  have e1 : cq_L_190.2.2.2 = al_L_190 := by dsimp only [cq_L_190]
  have e2 : cq_L_190.2.2.1 = mu_L_190 := by dsimp only [cq_L_190]
  have e3 : cq_L_190.1 = 1420 := by dsimp only [cq_L_190]
  rw [e1, e2, e3]
  exact rf_pcs (l := al_L_190) 0 ck_L_c_190 (List.isEmpty_iff.mp ck_L_n_190)
theorem ck_L_d_191 : ∀ alt ∈ cq_L_191.2.2.2, rf_run nm_cl nm_ct en_xs 8 xx_L kc_L cu_L po_L (some .boolean) 1 0 98 16364 (some cq_L_191.2.2.1) 5000 true cq_L_191.1 alt = true := by
  have e1 : cq_L_191.2.2.2 = al_L_191 := by dsimp only [cq_L_191]
  have e2 : cq_L_191.2.2.1 = mu_L_191 := by dsimp only [cq_L_191]
  have e3 : cq_L_191.1 = 1420 := by dsimp only [cq_L_191]
  rw [e1, e2, e3]
  exact rf_pcs (l := al_L_191) 0 ck_L_c_191 (List.isEmpty_iff.mp ck_L_n_191)
theorem ck_L_d_192 : ∀ alt ∈ cq_L_192.2.2.2, rf_run nm_cl nm_ct en_xs 8 xx_L kc_L cu_L po_L (some .boolean) 1 0 98 16364 (some cq_L_192.2.2.1) 5000 true cq_L_192.1 alt = true := by
  have e1 : cq_L_192.2.2.2 = al_L_192 := by dsimp only [cq_L_192]
  have e2 : cq_L_192.2.2.1 = mu_L_192 := by dsimp only [cq_L_192]
  have e3 : cq_L_192.1 = 1420 := by dsimp only [cq_L_192]
  rw [e1, e2, e3]
  exact rf_pcs (l := al_L_192) 0 ck_L_c_192 (List.isEmpty_iff.mp ck_L_n_192)
theorem ck_L_d_193 : ∀ alt ∈ cq_L_193.2.2.2, rf_run nm_cl nm_ct en_xs 8 xx_L kc_L cu_L po_L (some .boolean) 1 0 98 16364 (some cq_L_193.2.2.1) 5000 true cq_L_193.1 alt = true := by
  have e1 : cq_L_193.2.2.2 = al_L_193 := by dsimp only [cq_L_193]
  have e2 : cq_L_193.2.2.1 = mu_L_193 := by dsimp only [cq_L_193]
  have e3 : cq_L_193.1 = 1420 := by dsimp only [cq_L_193]
  rw [e1, e2, e3]
  exact rf_pcs (l := al_L_193) 0 ck_L_c_193 (List.isEmpty_iff.mp ck_L_n_193)
theorem ck_L_d_194 : ∀ alt ∈ cq_L_194.2.2.2, rf_run nm_cl nm_ct en_xs 8 xx_L kc_L cu_L po_L (some .boolean) 1 0 98 16364 (some cq_L_194.2.2.1) 5000 true cq_L_194.1 alt = true := by
  have e1 : cq_L_194.2.2.2 = al_L_194 := by dsimp only [cq_L_194]
  have e2 : cq_L_194.2.2.1 = mu_L_194 := by dsimp only [cq_L_194]
  have e3 : cq_L_194.1 = 1420 := by dsimp only [cq_L_194]
  rw [e1, e2, e3]
  exact rf_pcs (l := al_L_194) 0 ck_L_c_194 (List.isEmpty_iff.mp ck_L_n_194)
theorem ck_L_d_195 : ∀ alt ∈ cq_L_195.2.2.2, rf_run nm_cl nm_ct en_xs 8 xx_L kc_L cu_L po_L (some .boolean) 1 0 98 16364 (some cq_L_195.2.2.1) 5000 true cq_L_195.1 alt = true := by
  have e1 : cq_L_195.2.2.2 = al_L_195 := by dsimp only [cq_L_195]
  have e2 : cq_L_195.2.2.1 = mu_L_195 := by dsimp only [cq_L_195]
  have e3 : cq_L_195.1 = 1420 := by dsimp only [cq_L_195]
  rw [e1, e2, e3]
  exact rf_pcs (l := al_L_195) 1 ck_L_c_195 (List.isEmpty_iff.mp ck_L_n_195)
theorem ck_L_d_196 : ∀ alt ∈ cq_L_196.2.2.2, rf_run nm_cl nm_ct en_xs 8 xx_L kc_L cu_L po_L (some .boolean) 1 0 98 16364 (some cq_L_196.2.2.1) 5000 true cq_L_196.1 alt = true := by
  have e1 : cq_L_196.2.2.2 = al_L_196 := by dsimp only [cq_L_196]
  have e2 : cq_L_196.2.2.1 = mu_L_196 := by dsimp only [cq_L_196]
  have e3 : cq_L_196.1 = 1420 := by dsimp only [cq_L_196]
  rw [e1, e2, e3]
  exact rf_pcs (l := al_L_196) 0 ck_L_c_196 (List.isEmpty_iff.mp ck_L_n_196)
theorem ck_L_d_197 : ∀ alt ∈ cq_L_197.2.2.2, rf_run nm_cl nm_ct en_xs 8 xx_L kc_L cu_L po_L (some .boolean) 1 0 98 16364 (some cq_L_197.2.2.1) 5000 true cq_L_197.1 alt = true := by
  have e1 : cq_L_197.2.2.2 = al_L_197 := by dsimp only [cq_L_197]
  have e2 : cq_L_197.2.2.1 = mu_L_197 := by dsimp only [cq_L_197]
  have e3 : cq_L_197.1 = 1420 := by dsimp only [cq_L_197]
  rw [e1, e2, e3]
  exact rf_pcs (l := al_L_197) 0 ck_L_c_197 (List.isEmpty_iff.mp ck_L_n_197)
theorem ck_L_d_198 : ∀ alt ∈ cq_L_198.2.2.2, rf_run nm_cl nm_ct en_xs 8 xx_L kc_L cu_L po_L (some .boolean) 1 0 98 16364 (some cq_L_198.2.2.1) 5000 true cq_L_198.1 alt = true := by
  have e1 : cq_L_198.2.2.2 = al_L_198 := by dsimp only [cq_L_198]
  have e2 : cq_L_198.2.2.1 = mu_L_198 := by dsimp only [cq_L_198]
  have e3 : cq_L_198.1 = 1420 := by dsimp only [cq_L_198]
  rw [e1, e2, e3]
  exact rf_pcs (l := al_L_198) 1 ck_L_c_198 (List.isEmpty_iff.mp ck_L_n_198)
theorem ck_L_d_199 : ∀ alt ∈ cq_L_199.2.2.2, rf_run nm_cl nm_ct en_xs 8 xx_L kc_L cu_L po_L (some .boolean) 1 0 98 16364 (some cq_L_199.2.2.1) 5000 true cq_L_199.1 alt = true := by
  have e1 : cq_L_199.2.2.2 = al_L_199 := by dsimp only [cq_L_199]
  have e2 : cq_L_199.2.2.1 = mu_L_199 := by dsimp only [cq_L_199]
  have e3 : cq_L_199.1 = 1420 := by dsimp only [cq_L_199]
  rw [e1, e2, e3]
  exact rf_pcs (l := al_L_199) 0 ck_L_c_199 (List.isEmpty_iff.mp ck_L_n_199)
theorem ck_L_d_200 : ∀ alt ∈ cq_L_200.2.2.2, rf_run nm_cl nm_ct en_xs 8 xx_L kc_L cu_L po_L (some .boolean) 1 0 98 16364 (some cq_L_200.2.2.1) 5000 true cq_L_200.1 alt = true := by
  have e1 : cq_L_200.2.2.2 = al_L_200 := by dsimp only [cq_L_200]
  have e2 : cq_L_200.2.2.1 = mu_L_200 := by dsimp only [cq_L_200]
  have e3 : cq_L_200.1 = 1420 := by dsimp only [cq_L_200]
  rw [e1, e2, e3]
  exact rf_pcs (l := al_L_200) 1 ck_L_c_200 (List.isEmpty_iff.mp ck_L_n_200)
theorem ck_L_d_201 : ∀ alt ∈ cq_L_201.2.2.2, rf_run nm_cl nm_ct en_xs 8 xx_L kc_L cu_L po_L (some .boolean) 1 0 98 16364 (some cq_L_201.2.2.1) 5000 true cq_L_201.1 alt = true := by
  have e1 : cq_L_201.2.2.2 = al_L_201 := by dsimp only [cq_L_201]
  have e2 : cq_L_201.2.2.1 = mu_L_201 := by dsimp only [cq_L_201]
  have e3 : cq_L_201.1 = 1420 := by dsimp only [cq_L_201]
  rw [e1, e2, e3]
  exact rf_pcs (l := al_L_201) 0 ck_L_c_201 (List.isEmpty_iff.mp ck_L_n_201)
theorem ck_L_d_202 : ∀ alt ∈ cq_L_202.2.2.2, rf_run nm_cl nm_ct en_xs 8 xx_L kc_L cu_L po_L (some .boolean) 1 0 98 16364 (some cq_L_202.2.2.1) 5000 true cq_L_202.1 alt = true := by
  have e1 : cq_L_202.2.2.2 = al_L_202 := by dsimp only [cq_L_202]
  have e2 : cq_L_202.2.2.1 = mu_L_202 := by dsimp only [cq_L_202]
  have e3 : cq_L_202.1 = 1420 := by dsimp only [cq_L_202]
  rw [e1, e2, e3]
  exact rf_pcs (l := al_L_202) 0 ck_L_c_202 (List.isEmpty_iff.mp ck_L_n_202)
theorem ck_L_d_203 : ∀ alt ∈ cq_L_203.2.2.2, rf_run nm_cl nm_ct en_xs 8 xx_L kc_L cu_L po_L (some .boolean) 1 0 98 16364 (some cq_L_203.2.2.1) 5000 true cq_L_203.1 alt = true := by
  have e1 : cq_L_203.2.2.2 = al_L_203 := by dsimp only [cq_L_203]
  have e2 : cq_L_203.2.2.1 = mu_L_203 := by dsimp only [cq_L_203]
  have e3 : cq_L_203.1 = 1420 := by dsimp only [cq_L_203]
  rw [e1, e2, e3]
  exact rf_pcs (l := al_L_203) 0 ck_L_c_203 (List.isEmpty_iff.mp ck_L_n_203)
theorem ck_L_d_204 : ∀ alt ∈ cq_L_204.2.2.2, rf_run nm_cl nm_ct en_xs 8 xx_L kc_L cu_L po_L (some .boolean) 1 0 98 16364 (some cq_L_204.2.2.1) 5000 true cq_L_204.1 alt = true := by
  have e1 : cq_L_204.2.2.2 = al_L_204 := by dsimp only [cq_L_204]
  have e2 : cq_L_204.2.2.1 = mu_L_204 := by dsimp only [cq_L_204]
  have e3 : cq_L_204.1 = 1420 := by dsimp only [cq_L_204]
  rw [e1, e2, e3]
  exact rf_pcs (l := al_L_204) 0 ck_L_c_204 (List.isEmpty_iff.mp ck_L_n_204)
theorem ck_L_d_205 : ∀ alt ∈ cq_L_205.2.2.2, rf_run nm_cl nm_ct en_xs 8 xx_L kc_L cu_L po_L (some .boolean) 1 0 98 16364 (some cq_L_205.2.2.1) 5000 true cq_L_205.1 alt = true := by
  have e1 : cq_L_205.2.2.2 = al_L_205 := by dsimp only [cq_L_205]
  have e2 : cq_L_205.2.2.1 = mu_L_205 := by dsimp only [cq_L_205]
  have e3 : cq_L_205.1 = 1420 := by dsimp only [cq_L_205]
  rw [e1, e2, e3]
  exact rf_pcs (l := al_L_205) 0 ck_L_c_205 (List.isEmpty_iff.mp ck_L_n_205)
theorem ck_L_d_206 : ∀ alt ∈ cq_L_206.2.2.2, rf_run nm_cl nm_ct en_xs 8 xx_L kc_L cu_L po_L (some .boolean) 1 0 98 16364 (some cq_L_206.2.2.1) 5000 true cq_L_206.1 alt = true := by
  have e1 : cq_L_206.2.2.2 = al_L_206 := by dsimp only [cq_L_206]
  have e2 : cq_L_206.2.2.1 = mu_L_206 := by dsimp only [cq_L_206]
  have e3 : cq_L_206.1 = 1420 := by dsimp only [cq_L_206]
  rw [e1, e2, e3]
  exact rf_pcs (l := al_L_206) 0 ck_L_c_206 (List.isEmpty_iff.mp ck_L_n_206)
theorem ck_L_d_207 : ∀ alt ∈ cq_L_207.2.2.2, rf_run nm_cl nm_ct en_xs 8 xx_L kc_L cu_L po_L (some .boolean) 1 0 98 16364 (some cq_L_207.2.2.1) 5000 true cq_L_207.1 alt = true := by
  have e1 : cq_L_207.2.2.2 = al_L_207 := by dsimp only [cq_L_207]
  have e2 : cq_L_207.2.2.1 = mu_L_207 := by dsimp only [cq_L_207]
  have e3 : cq_L_207.1 = 1420 := by dsimp only [cq_L_207]
  rw [e1, e2, e3]
  exact rf_pcs (l := al_L_207) 0 ck_L_c_207 (List.isEmpty_iff.mp ck_L_n_207)
theorem ck_L_d_208 : ∀ alt ∈ cq_L_208.2.2.2, rf_run nm_cl nm_ct en_xs 8 xx_L kc_L cu_L po_L (some .boolean) 1 0 98 16364 (some cq_L_208.2.2.1) 5000 true cq_L_208.1 alt = true := by
  have e1 : cq_L_208.2.2.2 = al_L_208 := by dsimp only [cq_L_208]
  have e2 : cq_L_208.2.2.1 = mu_L_208 := by dsimp only [cq_L_208]
  have e3 : cq_L_208.1 = 1420 := by dsimp only [cq_L_208]
  rw [e1, e2, e3]
  exact rf_pcs (l := al_L_208) 0 ck_L_c_208 (List.isEmpty_iff.mp ck_L_n_208)
theorem ck_L_d_209 : ∀ alt ∈ cq_L_209.2.2.2, rf_run nm_cl nm_ct en_xs 8 xx_L kc_L cu_L po_L (some .boolean) 1 0 98 16364 (some cq_L_209.2.2.1) 5000 true cq_L_209.1 alt = true := by
  have e1 : cq_L_209.2.2.2 = al_L_209 := by dsimp only [cq_L_209]
  have e2 : cq_L_209.2.2.1 = mu_L_209 := by dsimp only [cq_L_209]
  have e3 : cq_L_209.1 = 1420 := by dsimp only [cq_L_209]
  rw [e1, e2, e3]
  exact rf_pcs (l := al_L_209) 0 ck_L_c_209 (List.isEmpty_iff.mp ck_L_n_209)
theorem ck_L_d_210 : ∀ alt ∈ cq_L_210.2.2.2, rf_run nm_cl nm_ct en_xs 8 xx_L kc_L cu_L po_L (some .boolean) 1 0 98 16364 (some cq_L_210.2.2.1) 5000 true cq_L_210.1 alt = true := by
  have e1 : cq_L_210.2.2.2 = al_L_210 := by dsimp only [cq_L_210]
  have e2 : cq_L_210.2.2.1 = mu_L_210 := by dsimp only [cq_L_210]
  have e3 : cq_L_210.1 = 1420 := by dsimp only [cq_L_210]
  rw [e1, e2, e3]
  exact rf_pcs (l := al_L_210) 1 ck_L_c_210 (List.isEmpty_iff.mp ck_L_n_210)
theorem ck_L_d_211 : ∀ alt ∈ cq_L_211.2.2.2, rf_run nm_cl nm_ct en_xs 8 xx_L kc_L cu_L po_L (some .boolean) 1 0 98 16364 (some cq_L_211.2.2.1) 5000 true cq_L_211.1 alt = true := by
  have e1 : cq_L_211.2.2.2 = al_L_211 := by dsimp only [cq_L_211]
  have e2 : cq_L_211.2.2.1 = mu_L_211 := by dsimp only [cq_L_211]
  have e3 : cq_L_211.1 = 1420 := by dsimp only [cq_L_211]
  rw [e1, e2, e3]
  exact rf_pcs (l := al_L_211) 0 ck_L_c_211 (List.isEmpty_iff.mp ck_L_n_211)
theorem ck_L_d_212 : ∀ alt ∈ cq_L_212.2.2.2, rf_run nm_cl nm_ct en_xs 8 xx_L kc_L cu_L po_L (some .boolean) 1 0 98 16364 (some cq_L_212.2.2.1) 5000 true cq_L_212.1 alt = true := by
  have e1 : cq_L_212.2.2.2 = al_L_212 := by dsimp only [cq_L_212]
  have e2 : cq_L_212.2.2.1 = mu_L_212 := by dsimp only [cq_L_212]
  have e3 : cq_L_212.1 = 1420 := by dsimp only [cq_L_212]
  rw [e1, e2, e3]
  exact rf_pcs (l := al_L_212) 0 ck_L_c_212 (List.isEmpty_iff.mp ck_L_n_212)
theorem ck_L_d_213 : ∀ alt ∈ cq_L_213.2.2.2, rf_run nm_cl nm_ct en_xs 8 xx_L kc_L cu_L po_L (some .boolean) 1 0 98 16364 (some cq_L_213.2.2.1) 5000 true cq_L_213.1 alt = true := by
  have e1 : cq_L_213.2.2.2 = al_L_213 := by dsimp only [cq_L_213]
  have e2 : cq_L_213.2.2.1 = mu_L_213 := by dsimp only [cq_L_213]
  have e3 : cq_L_213.1 = 1420 := by dsimp only [cq_L_213]
  rw [e1, e2, e3]
  exact rf_pcs (l := al_L_213) 0 ck_L_c_213 (List.isEmpty_iff.mp ck_L_n_213)
theorem ck_L_d_214 : ∀ alt ∈ cq_L_214.2.2.2, rf_run nm_cl nm_ct en_xs 8 xx_L kc_L cu_L po_L (some .boolean) 1 0 98 16364 (some cq_L_214.2.2.1) 5000 true cq_L_214.1 alt = true := by
  have e1 : cq_L_214.2.2.2 = al_L_214 := by dsimp only [cq_L_214]
  have e2 : cq_L_214.2.2.1 = mu_L_214 := by dsimp only [cq_L_214]
  have e3 : cq_L_214.1 = 1420 := by dsimp only [cq_L_214]
  rw [e1, e2, e3]
  exact rf_pcs (l := al_L_214) 0 ck_L_c_214 (List.isEmpty_iff.mp ck_L_n_214)
theorem ck_L_d_215 : ∀ alt ∈ cq_L_215.2.2.2, rf_run nm_cl nm_ct en_xs 8 xx_L kc_L cu_L po_L (some .boolean) 1 0 98 16364 (some cq_L_215.2.2.1) 5000 true cq_L_215.1 alt = true := by
  have e1 : cq_L_215.2.2.2 = al_L_215 := by dsimp only [cq_L_215]
  have e2 : cq_L_215.2.2.1 = mu_L_215 := by dsimp only [cq_L_215]
  have e3 : cq_L_215.1 = 1420 := by dsimp only [cq_L_215]
  rw [e1, e2, e3]
  exact rf_pcs (l := al_L_215) 0 ck_L_c_215 (List.isEmpty_iff.mp ck_L_n_215)
theorem ck_L_d_216 : ∀ alt ∈ cq_L_216.2.2.2, rf_run nm_cl nm_ct en_xs 8 xx_L kc_L cu_L po_L (some .boolean) 1 0 98 16364 (some cq_L_216.2.2.1) 5000 true cq_L_216.1 alt = true := by
  have e1 : cq_L_216.2.2.2 = al_L_216 := by dsimp only [cq_L_216]
  have e2 : cq_L_216.2.2.1 = mu_L_216 := by dsimp only [cq_L_216]
  have e3 : cq_L_216.1 = 1420 := by dsimp only [cq_L_216]
  rw [e1, e2, e3]
  exact rf_pcs (l := al_L_216) 0 ck_L_c_216 (List.isEmpty_iff.mp ck_L_n_216)
theorem ck_L_d_217 : ∀ alt ∈ cq_L_217.2.2.2, rf_run nm_cl nm_ct en_xs 8 xx_L kc_L cu_L po_L (some .boolean) 1 0 98 16364 (some cq_L_217.2.2.1) 5000 true cq_L_217.1 alt = true := by
  have e1 : cq_L_217.2.2.2 = al_L_217 := by dsimp only [cq_L_217]
  have e2 : cq_L_217.2.2.1 = mu_L_217 := by dsimp only [cq_L_217]
  have e3 : cq_L_217.1 = 1420 := by dsimp only [cq_L_217]
  rw [e1, e2, e3]
  exact rf_pcs (l := al_L_217) 0 ck_L_c_217 (List.isEmpty_iff.mp ck_L_n_217)
theorem ck_L_d_218 : ∀ alt ∈ cq_L_218.2.2.2, rf_run nm_cl nm_ct en_xs 8 xx_L kc_L cu_L po_L (some .boolean) 1 0 98 16364 (some cq_L_218.2.2.1) 5000 true cq_L_218.1 alt = true := by
  have e1 : cq_L_218.2.2.2 = al_L_218 := by dsimp only [cq_L_218]
  have e2 : cq_L_218.2.2.1 = mu_L_218 := by dsimp only [cq_L_218]
  have e3 : cq_L_218.1 = 1420 := by dsimp only [cq_L_218]
  rw [e1, e2, e3]
  exact rf_pcs (l := al_L_218) 0 ck_L_c_218 (List.isEmpty_iff.mp ck_L_n_218)
theorem ck_L_d_219 : ∀ alt ∈ cq_L_219.2.2.2, rf_run nm_cl nm_ct en_xs 8 xx_L kc_L cu_L po_L (some .boolean) 1 0 98 16364 (some cq_L_219.2.2.1) 5000 true cq_L_219.1 alt = true := by
  have e1 : cq_L_219.2.2.2 = al_L_219 := by dsimp only [cq_L_219]
  have e2 : cq_L_219.2.2.1 = mu_L_219 := by dsimp only [cq_L_219]
  have e3 : cq_L_219.1 = 1420 := by dsimp only [cq_L_219]
  rw [e1, e2, e3]
  exact rf_pcs (l := al_L_219) 0 ck_L_c_219 (List.isEmpty_iff.mp ck_L_n_219)
theorem ck_L_d_220 : ∀ alt ∈ cq_L_220.2.2.2, rf_run nm_cl nm_ct en_xs 8 xx_L kc_L cu_L po_L (some .boolean) 1 0 98 16364 (some cq_L_220.2.2.1) 5000 true cq_L_220.1 alt = true := by
  have e1 : cq_L_220.2.2.2 = al_L_220 := by dsimp only [cq_L_220]
  have e2 : cq_L_220.2.2.1 = mu_L_220 := by dsimp only [cq_L_220]
  have e3 : cq_L_220.1 = 1420 := by dsimp only [cq_L_220]
  rw [e1, e2, e3]
  exact rf_pcs (l := al_L_220) 0 ck_L_c_220 (List.isEmpty_iff.mp ck_L_n_220)
theorem ck_L_d_221 : ∀ alt ∈ cq_L_221.2.2.2, rf_run nm_cl nm_ct en_xs 8 xx_L kc_L cu_L po_L (some .boolean) 1 0 98 16364 (some cq_L_221.2.2.1) 5000 true cq_L_221.1 alt = true := by
  have e1 : cq_L_221.2.2.2 = al_L_221 := by dsimp only [cq_L_221]
  have e2 : cq_L_221.2.2.1 = mu_L_221 := by dsimp only [cq_L_221]
  have e3 : cq_L_221.1 = 1420 := by dsimp only [cq_L_221]
  rw [e1, e2, e3]
  exact rf_pcs (l := al_L_221) 0 ck_L_c_221 (List.isEmpty_iff.mp ck_L_n_221)
theorem ck_L_d_222 : ∀ alt ∈ cq_L_222.2.2.2, rf_run nm_cl nm_ct en_xs 8 xx_L kc_L cu_L po_L (some .boolean) 1 0 98 16364 (some cq_L_222.2.2.1) 5000 true cq_L_222.1 alt = true := by
  have e1 : cq_L_222.2.2.2 = al_L_222 := by dsimp only [cq_L_222]
  have e2 : cq_L_222.2.2.1 = mu_L_222 := by dsimp only [cq_L_222]
  have e3 : cq_L_222.1 = 1420 := by dsimp only [cq_L_222]
  rw [e1, e2, e3]
  exact rf_pcs (l := al_L_222) 1 ck_L_c_222 (List.isEmpty_iff.mp ck_L_n_222)
theorem ck_L_d_223 : ∀ alt ∈ cq_L_223.2.2.2, rf_run nm_cl nm_ct en_xs 8 xx_L kc_L cu_L po_L (some .boolean) 1 0 98 16364 (some cq_L_223.2.2.1) 5000 true cq_L_223.1 alt = true := by
  have e1 : cq_L_223.2.2.2 = al_L_223 := by dsimp only [cq_L_223]
  have e2 : cq_L_223.2.2.1 = mu_L_223 := by dsimp only [cq_L_223]
  have e3 : cq_L_223.1 = 1420 := by dsimp only [cq_L_223]
  rw [e1, e2, e3]
  exact rf_pcs (l := al_L_223) 0 ck_L_c_223 (List.isEmpty_iff.mp ck_L_n_223)
theorem ck_L_d_224 : ∀ alt ∈ cq_L_224.2.2.2, rf_run nm_cl nm_ct en_xs 8 xx_L kc_L cu_L po_L (some .boolean) 1 0 98 16364 (some cq_L_224.2.2.1) 5000 true cq_L_224.1 alt = true := by
  have e1 : cq_L_224.2.2.2 = al_L_224 := by dsimp only [cq_L_224]
  have e2 : cq_L_224.2.2.1 = mu_L_224 := by dsimp only [cq_L_224]
  have e3 : cq_L_224.1 = 1420 := by dsimp only [cq_L_224]
  rw [e1, e2, e3]
  exact rf_pcs (l := al_L_224) 0 ck_L_c_224 (List.isEmpty_iff.mp ck_L_n_224)
theorem ck_L_d_225 : ∀ alt ∈ cq_L_225.2.2.2, rf_run nm_cl nm_ct en_xs 8 xx_L kc_L cu_L po_L (some .boolean) 1 0 98 16364 (some cq_L_225.2.2.1) 5000 true cq_L_225.1 alt = true := by
  have e1 : cq_L_225.2.2.2 = al_L_225 := by dsimp only [cq_L_225]
  have e2 : cq_L_225.2.2.1 = mu_L_225 := by dsimp only [cq_L_225]
  have e3 : cq_L_225.1 = 1420 := by dsimp only [cq_L_225]
  rw [e1, e2, e3]
  exact rf_pcs (l := al_L_225) 0 ck_L_c_225 (List.isEmpty_iff.mp ck_L_n_225)
theorem ck_L_d_226 : ∀ alt ∈ cq_L_226.2.2.2, rf_run nm_cl nm_ct en_xs 8 xx_L kc_L cu_L po_L (some .boolean) 1 0 98 16364 (some cq_L_226.2.2.1) 5000 true cq_L_226.1 alt = true := by
  have e1 : cq_L_226.2.2.2 = al_L_226 := by dsimp only [cq_L_226]
  have e2 : cq_L_226.2.2.1 = mu_L_226 := by dsimp only [cq_L_226]
  have e3 : cq_L_226.1 = 1420 := by dsimp only [cq_L_226]
  rw [e1, e2, e3]
  exact rf_pcs (l := al_L_226) 0 ck_L_c_226 (List.isEmpty_iff.mp ck_L_n_226)
theorem ck_L_d_227 : ∀ alt ∈ cq_L_227.2.2.2, rf_run nm_cl nm_ct en_xs 8 xx_L kc_L cu_L po_L (some .boolean) 1 0 98 16364 (some cq_L_227.2.2.1) 5000 true cq_L_227.1 alt = true := by
  have e1 : cq_L_227.2.2.2 = al_L_227 := by dsimp only [cq_L_227]
  have e2 : cq_L_227.2.2.1 = mu_L_227 := by dsimp only [cq_L_227]
  have e3 : cq_L_227.1 = 1420 := by dsimp only [cq_L_227]
  rw [e1, e2, e3]
  exact rf_pcs (l := al_L_227) 0 ck_L_c_227 (List.isEmpty_iff.mp ck_L_n_227)
theorem ck_L_d_228 : ∀ alt ∈ cq_L_228.2.2.2, rf_run nm_cl nm_ct en_xs 8 xx_L kc_L cu_L po_L (some .boolean) 1 0 98 16364 (some cq_L_228.2.2.1) 5000 true cq_L_228.1 alt = true := by
  have e1 : cq_L_228.2.2.2 = al_L_228 := by dsimp only [cq_L_228]
  have e2 : cq_L_228.2.2.1 = mu_L_228 := by dsimp only [cq_L_228]
  have e3 : cq_L_228.1 = 1420 := by dsimp only [cq_L_228]
  rw [e1, e2, e3]
  exact rf_pcs (l := al_L_228) 0 ck_L_c_228 (List.isEmpty_iff.mp ck_L_n_228)
theorem ck_L_d_229 : ∀ alt ∈ cq_L_229.2.2.2, rf_run nm_cl nm_ct en_xs 8 xx_L kc_L cu_L po_L (some .boolean) 1 0 98 16364 (some cq_L_229.2.2.1) 5000 true cq_L_229.1 alt = true := by
  have e1 : cq_L_229.2.2.2 = al_L_229 := by dsimp only [cq_L_229]
  have e2 : cq_L_229.2.2.1 = mu_L_229 := by dsimp only [cq_L_229]
  have e3 : cq_L_229.1 = 1420 := by dsimp only [cq_L_229]
  rw [e1, e2, e3]
  exact rf_pcs (l := al_L_229) 0 ck_L_c_229 (List.isEmpty_iff.mp ck_L_n_229)
theorem ck_L_d_230 : ∀ alt ∈ cq_L_230.2.2.2, rf_run nm_cl nm_ct en_xs 8 xx_L kc_L cu_L po_L (some .boolean) 1 0 98 16364 (some cq_L_230.2.2.1) 5000 true cq_L_230.1 alt = true := by
  have e1 : cq_L_230.2.2.2 = al_L_230 := by dsimp only [cq_L_230]
  have e2 : cq_L_230.2.2.1 = mu_L_230 := by dsimp only [cq_L_230]
  have e3 : cq_L_230.1 = 1420 := by dsimp only [cq_L_230]
  rw [e1, e2, e3]
  exact rf_pcs (l := al_L_230) 0 ck_L_c_230 (List.isEmpty_iff.mp ck_L_n_230)
theorem ck_L_d_231 : ∀ alt ∈ cq_L_231.2.2.2, rf_run nm_cl nm_ct en_xs 8 xx_L kc_L cu_L po_L (some .boolean) 1 0 98 16364 (some cq_L_231.2.2.1) 5000 true cq_L_231.1 alt = true := by
  have e1 : cq_L_231.2.2.2 = al_L_231 := by dsimp only [cq_L_231]
  have e2 : cq_L_231.2.2.1 = mu_L_231 := by dsimp only [cq_L_231]
  have e3 : cq_L_231.1 = 1420 := by dsimp only [cq_L_231]
  rw [e1, e2, e3]
  exact rf_pcs (l := al_L_231) 0 ck_L_c_231 (List.isEmpty_iff.mp ck_L_n_231)
theorem ck_L_d_232 : ∀ alt ∈ cq_L_232.2.2.2, rf_run nm_cl nm_ct en_xs 8 xx_L kc_L cu_L po_L (some .boolean) 1 0 98 16364 (some cq_L_232.2.2.1) 5000 true cq_L_232.1 alt = true := by
  have e1 : cq_L_232.2.2.2 = al_L_232 := by dsimp only [cq_L_232]
  have e2 : cq_L_232.2.2.1 = mu_L_232 := by dsimp only [cq_L_232]
  have e3 : cq_L_232.1 = 1420 := by dsimp only [cq_L_232]
  rw [e1, e2, e3]
  exact rf_pcs (l := al_L_232) 0 ck_L_c_232 (List.isEmpty_iff.mp ck_L_n_232)
theorem ck_L_d_233 : ∀ alt ∈ cq_L_233.2.2.2, rf_run nm_cl nm_ct en_xs 8 xx_L kc_L cu_L po_L (some .boolean) 1 0 98 16364 (some cq_L_233.2.2.1) 5000 true cq_L_233.1 alt = true := by
  have e1 : cq_L_233.2.2.2 = al_L_233 := by dsimp only [cq_L_233]
  have e2 : cq_L_233.2.2.1 = mu_L_233 := by dsimp only [cq_L_233]
  have e3 : cq_L_233.1 = 1420 := by dsimp only [cq_L_233]
  rw [e1, e2, e3]
  exact rf_pcs (l := al_L_233) 0 ck_L_c_233 (List.isEmpty_iff.mp ck_L_n_233)
theorem ck_L_d_234 : ∀ alt ∈ cq_L_234.2.2.2, rf_run nm_cl nm_ct en_xs 8 xx_L kc_L cu_L po_L (some .boolean) 1 0 98 16364 (some cq_L_234.2.2.1) 5000 true cq_L_234.1 alt = true := by
  have e1 : cq_L_234.2.2.2 = al_L_234 := by dsimp only [cq_L_234]
  have e2 : cq_L_234.2.2.1 = mu_L_234 := by dsimp only [cq_L_234]
  have e3 : cq_L_234.1 = 1420 := by dsimp only [cq_L_234]
  rw [e1, e2, e3]
  exact rf_pcs (l := al_L_234) 0 ck_L_c_234 (List.isEmpty_iff.mp ck_L_n_234)
theorem ck_L_d_235 : ∀ alt ∈ cq_L_235.2.2.2, rf_run nm_cl nm_ct en_xs 8 xx_L kc_L cu_L po_L (some .boolean) 1 0 98 16364 (some cq_L_235.2.2.1) 5000 true cq_L_235.1 alt = true := by
  have e1 : cq_L_235.2.2.2 = al_L_235 := by dsimp only [cq_L_235]
  have e2 : cq_L_235.2.2.1 = mu_L_235 := by dsimp only [cq_L_235]
  have e3 : cq_L_235.1 = 1420 := by dsimp only [cq_L_235]
  rw [e1, e2, e3]
  exact rf_pcs (l := al_L_235) 1 ck_L_c_235 (List.isEmpty_iff.mp ck_L_n_235)
theorem ck_L_d_236 : ∀ alt ∈ cq_L_236.2.2.2, rf_run nm_cl nm_ct en_xs 8 xx_L kc_L cu_L po_L (some .boolean) 1 0 98 16364 (some cq_L_236.2.2.1) 5000 true cq_L_236.1 alt = true := by
  have e1 : cq_L_236.2.2.2 = al_L_236 := by dsimp only [cq_L_236]
  have e2 : cq_L_236.2.2.1 = mu_L_236 := by dsimp only [cq_L_236]
  have e3 : cq_L_236.1 = 1420 := by dsimp only [cq_L_236]
  rw [e1, e2, e3]
  exact rf_pcs (l := al_L_236) 0 ck_L_c_236 (List.isEmpty_iff.mp ck_L_n_236)
theorem ck_L_d_237 : ∀ alt ∈ cq_L_237.2.2.2, rf_run nm_cl nm_ct en_xs 8 xx_L kc_L cu_L po_L (some .boolean) 1 0 98 16364 (some cq_L_237.2.2.1) 5000 true cq_L_237.1 alt = true := by
  have e1 : cq_L_237.2.2.2 = al_L_237 := by dsimp only [cq_L_237]
  have e2 : cq_L_237.2.2.1 = mu_L_237 := by dsimp only [cq_L_237]
  have e3 : cq_L_237.1 = 1420 := by dsimp only [cq_L_237]
  rw [e1, e2, e3]
  exact rf_pcs (l := al_L_237) 0 ck_L_c_237 (List.isEmpty_iff.mp ck_L_n_237)
theorem ck_L_d_238 : ∀ alt ∈ cq_L_238.2.2.2, rf_run nm_cl nm_ct en_xs 8 xx_L kc_L cu_L po_L (some .boolean) 1 0 98 16364 (some cq_L_238.2.2.1) 5000 true cq_L_238.1 alt = true := by
  have e1 : cq_L_238.2.2.2 = al_L_238 := by dsimp only [cq_L_238]
  have e2 : cq_L_238.2.2.1 = mu_L_238 := by dsimp only [cq_L_238]
  have e3 : cq_L_238.1 = 1420 := by dsimp only [cq_L_238]
  rw [e1, e2, e3]
  exact rf_pcs (l := al_L_238) 1 ck_L_c_238 (List.isEmpty_iff.mp ck_L_n_238)
theorem ck_L_d_239 : ∀ alt ∈ cq_L_239.2.2.2, rf_run nm_cl nm_ct en_xs 8 xx_L kc_L cu_L po_L (some .boolean) 1 0 98 16364 (some cq_L_239.2.2.1) 5000 true cq_L_239.1 alt = true := by
  have e1 : cq_L_239.2.2.2 = al_L_239 := by dsimp only [cq_L_239]
  have e2 : cq_L_239.2.2.1 = mu_L_239 := by dsimp only [cq_L_239]
  have e3 : cq_L_239.1 = 1420 := by dsimp only [cq_L_239]
  rw [e1, e2, e3]
  exact rf_pcs (l := al_L_239) 0 ck_L_c_239 (List.isEmpty_iff.mp ck_L_n_239)
theorem ck_L_d_240 : ∀ alt ∈ cq_L_240.2.2.2, rf_run nm_cl nm_ct en_xs 8 xx_L kc_L cu_L po_L (some .boolean) 1 0 98 16364 (some cq_L_240.2.2.1) 5000 true cq_L_240.1 alt = true := by
  have e1 : cq_L_240.2.2.2 = al_L_240 := by dsimp only [cq_L_240]
  have e2 : cq_L_240.2.2.1 = mu_L_240 := by dsimp only [cq_L_240]
  have e3 : cq_L_240.1 = 1420 := by dsimp only [cq_L_240]
  rw [e1, e2, e3]
  exact rf_pcs (l := al_L_240) 0 ck_L_c_240 (List.isEmpty_iff.mp ck_L_n_240)
theorem ck_L_d_241 : ∀ alt ∈ cq_L_241.2.2.2, rf_run nm_cl nm_ct en_xs 8 xx_L kc_L cu_L po_L (some .boolean) 1 0 98 16364 (some cq_L_241.2.2.1) 5000 true cq_L_241.1 alt = true := by
  have e1 : cq_L_241.2.2.2 = al_L_241 := by dsimp only [cq_L_241]
  have e2 : cq_L_241.2.2.1 = mu_L_241 := by dsimp only [cq_L_241]
  have e3 : cq_L_241.1 = 1420 := by dsimp only [cq_L_241]
  rw [e1, e2, e3]
  exact rf_pcs (l := al_L_241) 0 ck_L_c_241 (List.isEmpty_iff.mp ck_L_n_241)
theorem ck_L_d_242 : ∀ alt ∈ cq_L_242.2.2.2, rf_run nm_cl nm_ct en_xs 8 xx_L kc_L cu_L po_L (some .boolean) 1 0 98 16364 (some cq_L_242.2.2.1) 5000 true cq_L_242.1 alt = true := by
  have e1 : cq_L_242.2.2.2 = al_L_242 := by dsimp only [cq_L_242]
  have e2 : cq_L_242.2.2.1 = mu_L_242 := by dsimp only [cq_L_242]
  have e3 : cq_L_242.1 = 1420 := by dsimp only [cq_L_242]
  rw [e1, e2, e3]
  exact rf_pcs (l := al_L_242) 0 ck_L_c_242 (List.isEmpty_iff.mp ck_L_n_242)
theorem ck_L_d_243 : ∀ alt ∈ cq_L_243.2.2.2, rf_run nm_cl nm_ct en_xs 8 xx_L kc_L cu_L po_L (some .boolean) 1 0 98 16364 (some cq_L_243.2.2.1) 5000 true cq_L_243.1 alt = true := by
  have e1 : cq_L_243.2.2.2 = al_L_243 := by dsimp only [cq_L_243]
  have e2 : cq_L_243.2.2.1 = mu_L_243 := by dsimp only [cq_L_243]
  have e3 : cq_L_243.1 = 1420 := by dsimp only [cq_L_243]
  rw [e1, e2, e3]
  exact rf_pcs (l := al_L_243) 0 ck_L_c_243 (List.isEmpty_iff.mp ck_L_n_243)
theorem ck_L_d_244 : ∀ alt ∈ cq_L_244.2.2.2, rf_run nm_cl nm_ct en_xs 8 xx_L kc_L cu_L po_L (some .boolean) 1 0 98 16364 (some cq_L_244.2.2.1) 5000 true cq_L_244.1 alt = true := by
  have e1 : cq_L_244.2.2.2 = al_L_244 := by dsimp only [cq_L_244]
  have e2 : cq_L_244.2.2.1 = mu_L_244 := by dsimp only [cq_L_244]
  have e3 : cq_L_244.1 = 1420 := by dsimp only [cq_L_244]
  rw [e1, e2, e3]
  exact rf_pcs (l := al_L_244) 0 ck_L_c_244 (List.isEmpty_iff.mp ck_L_n_244)
theorem ck_L_d_245 : ∀ alt ∈ cq_L_245.2.2.2, rf_run nm_cl nm_ct en_xs 8 xx_L kc_L cu_L po_L (some .boolean) 1 0 98 16364 (some cq_L_245.2.2.1) 5000 true cq_L_245.1 alt = true := by
  have e1 : cq_L_245.2.2.2 = al_L_245 := by dsimp only [cq_L_245]
  have e2 : cq_L_245.2.2.1 = mu_L_245 := by dsimp only [cq_L_245]
  have e3 : cq_L_245.1 = 1420 := by dsimp only [cq_L_245]
  rw [e1, e2, e3]
  exact rf_pcs (l := al_L_245) 0 ck_L_c_245 (List.isEmpty_iff.mp ck_L_n_245)
theorem ck_L_d_246 : ∀ alt ∈ cq_L_246.2.2.2, rf_run nm_cl nm_ct en_xs 8 xx_L kc_L cu_L po_L (some .boolean) 1 0 98 16364 (some cq_L_246.2.2.1) 5000 true cq_L_246.1 alt = true := by
  have e1 : cq_L_246.2.2.2 = al_L_246 := by dsimp only [cq_L_246]
  have e2 : cq_L_246.2.2.1 = mu_L_246 := by dsimp only [cq_L_246]
  have e3 : cq_L_246.1 = 1420 := by dsimp only [cq_L_246]
  rw [e1, e2, e3]
  exact rf_pcs (l := al_L_246) 0 ck_L_c_246 (List.isEmpty_iff.mp ck_L_n_246)
theorem ck_L_d_247 : ∀ alt ∈ cq_L_247.2.2.2, rf_run nm_cl nm_ct en_xs 8 xx_L kc_L cu_L po_L (some .boolean) 1 0 98 16364 (some cq_L_247.2.2.1) 5000 true cq_L_247.1 alt = true := by
  have e1 : cq_L_247.2.2.2 = al_L_247 := by dsimp only [cq_L_247]
  have e2 : cq_L_247.2.2.1 = mu_L_247 := by dsimp only [cq_L_247]
  have e3 : cq_L_247.1 = 1420 := by dsimp only [cq_L_247]
  rw [e1, e2, e3]
  exact rf_pcs (l := al_L_247) 0 ck_L_c_247 (List.isEmpty_iff.mp ck_L_n_247)
theorem ck_L_d_248 : ∀ alt ∈ cq_L_248.2.2.2, rf_run nm_cl nm_ct en_xs 8 xx_L kc_L cu_L po_L (some .boolean) 1 0 98 16364 (some cq_L_248.2.2.1) 5000 true cq_L_248.1 alt = true := by
  have e1 : cq_L_248.2.2.2 = al_L_248 := by dsimp only [cq_L_248]
  have e2 : cq_L_248.2.2.1 = mu_L_248 := by dsimp only [cq_L_248]
  have e3 : cq_L_248.1 = 1420 := by dsimp only [cq_L_248]
  rw [e1, e2, e3]
  exact rf_pcs (l := al_L_248) 0 ck_L_c_248 (List.isEmpty_iff.mp ck_L_n_248)
theorem ck_L_d_249 : ∀ alt ∈ cq_L_249.2.2.2, rf_run nm_cl nm_ct en_xs 8 xx_L kc_L cu_L po_L (some .boolean) 1 0 98 16364 (some cq_L_249.2.2.1) 5000 true cq_L_249.1 alt = true := by
  have e1 : cq_L_249.2.2.2 = al_L_249 := by dsimp only [cq_L_249]
  have e2 : cq_L_249.2.2.1 = mu_L_249 := by dsimp only [cq_L_249]
  have e3 : cq_L_249.1 = 1420 := by dsimp only [cq_L_249]
  rw [e1, e2, e3]
  exact rf_pcs (l := al_L_249) 1 ck_L_c_249 (List.isEmpty_iff.mp ck_L_n_249)
theorem ck_L_d_250 : ∀ alt ∈ cq_L_250.2.2.2, rf_run nm_cl nm_ct en_xs 8 xx_L kc_L cu_L po_L (some .boolean) 1 0 98 16364 (some cq_L_250.2.2.1) 5000 true cq_L_250.1 alt = true := by
  have e1 : cq_L_250.2.2.2 = al_L_250 := by dsimp only [cq_L_250]
  have e2 : cq_L_250.2.2.1 = mu_L_250 := by dsimp only [cq_L_250]
  have e3 : cq_L_250.1 = 1420 := by dsimp only [cq_L_250]
  rw [e1, e2, e3]
  exact rf_pcs (l := al_L_250) 0 ck_L_c_250 (List.isEmpty_iff.mp ck_L_n_250)
theorem ck_L_d_251 : ∀ alt ∈ cq_L_251.2.2.2, rf_run nm_cl nm_ct en_xs 8 xx_L kc_L cu_L po_L (some .boolean) 1 0 98 16364 (some cq_L_251.2.2.1) 5000 true cq_L_251.1 alt = true := by
  have e1 : cq_L_251.2.2.2 = al_L_251 := by dsimp only [cq_L_251]
  have e2 : cq_L_251.2.2.1 = mu_L_251 := by dsimp only [cq_L_251]
  have e3 : cq_L_251.1 = 1420 := by dsimp only [cq_L_251]
  rw [e1, e2, e3]
  exact rf_pcs (l := al_L_251) 0 ck_L_c_251 (List.isEmpty_iff.mp ck_L_n_251)
theorem ck_L_d_252 : ∀ alt ∈ cq_L_252.2.2.2, rf_run nm_cl nm_ct en_xs 8 xx_L kc_L cu_L po_L (some .boolean) 1 0 98 16364 (some cq_L_252.2.2.1) 5000 true cq_L_252.1 alt = true := by
  have e1 : cq_L_252.2.2.2 = al_L_252 := by dsimp only [cq_L_252]
  have e2 : cq_L_252.2.2.1 = mu_L_252 := by dsimp only [cq_L_252]
  have e3 : cq_L_252.1 = 1420 := by dsimp only [cq_L_252]
  rw [e1, e2, e3]
  exact rf_pcs (l := al_L_252) 0 ck_L_c_252 (List.isEmpty_iff.mp ck_L_n_252)
theorem ck_L_d_253 : ∀ alt ∈ cq_L_253.2.2.2, rf_run nm_cl nm_ct en_xs 8 xx_L kc_L cu_L po_L (some .boolean) 1 0 98 16364 (some cq_L_253.2.2.1) 5000 true cq_L_253.1 alt = true := by
  have e1 : cq_L_253.2.2.2 = al_L_253 := by dsimp only [cq_L_253]
  have e2 : cq_L_253.2.2.1 = mu_L_253 := by dsimp only [cq_L_253]
  have e3 : cq_L_253.1 = 1420 := by dsimp only [cq_L_253]
  rw [e1, e2, e3]
  exact rf_pcs (l := al_L_253) 0 ck_L_c_253 (List.isEmpty_iff.mp ck_L_n_253)
theorem ck_L_d_254 : ∀ alt ∈ cq_L_254.2.2.2, rf_run nm_cl nm_ct en_xs 8 xx_L kc_L cu_L po_L (some .boolean) 1 0 98 16364 (some cq_L_254.2.2.1) 5000 true cq_L_254.1 alt = true := by
  have e1 : cq_L_254.2.2.2 = al_L_254 := by dsimp only [cq_L_254]
  have e2 : cq_L_254.2.2.1 = mu_L_254 := by dsimp only [cq_L_254]
  have e3 : cq_L_254.1 = 1420 := by dsimp only [cq_L_254]
  rw [e1, e2, e3]
  exact rf_pcs (l := al_L_254) 0 ck_L_c_254 (List.isEmpty_iff.mp ck_L_n_254)
theorem ck_L_d_255 : ∀ alt ∈ cq_L_255.2.2.2, rf_run nm_cl nm_ct en_xs 8 xx_L kc_L cu_L po_L (some .boolean) 1 0 98 16364 (some cq_L_255.2.2.1) 5000 true cq_L_255.1 alt = true := by
  have e1 : cq_L_255.2.2.2 = al_L_255 := by dsimp only [cq_L_255]
  have e2 : cq_L_255.2.2.1 = mu_L_255 := by dsimp only [cq_L_255]
  have e3 : cq_L_255.1 = 1420 := by dsimp only [cq_L_255]
  rw [e1, e2, e3]
  exact rf_pcs (l := al_L_255) 0 ck_L_c_255 (List.isEmpty_iff.mp ck_L_n_255)
theorem ck_L_d_256 : ∀ alt ∈ cq_L_256.2.2.2, rf_run nm_cl nm_ct en_xs 8 xx_L kc_L cu_L po_L (some .boolean) 1 0 98 16364 (some cq_L_256.2.2.1) 5000 true cq_L_256.1 alt = true := by
  have e1 : cq_L_256.2.2.2 = al_L_256 := by dsimp only [cq_L_256]
  have e2 : cq_L_256.2.2.1 = mu_L_256 := by dsimp only [cq_L_256]
  have e3 : cq_L_256.1 = 1420 := by dsimp only [cq_L_256]
  rw [e1, e2, e3]
  exact rf_pcs (l := al_L_256) 0 ck_L_c_256 (List.isEmpty_iff.mp ck_L_n_256)
theorem ck_L_d_257 : ∀ alt ∈ cq_L_257.2.2.2, rf_run nm_cl nm_ct en_xs 8 xx_L kc_L cu_L po_L (some .boolean) 1 0 98 16364 (some cq_L_257.2.2.1) 5000 true cq_L_257.1 alt = true := by
  have e1 : cq_L_257.2.2.2 = al_L_257 := by dsimp only [cq_L_257]
  have e2 : cq_L_257.2.2.1 = mu_L_257 := by dsimp only [cq_L_257]
  have e3 : cq_L_257.1 = 1420 := by dsimp only [cq_L_257]
  rw [e1, e2, e3]
  exact rf_pcs (l := al_L_257) 0 ck_L_c_257 (List.isEmpty_iff.mp ck_L_n_257)
theorem ck_L_d_258 : ∀ alt ∈ cq_L_258.2.2.2, rf_run nm_cl nm_ct en_xs 8 xx_L kc_L cu_L po_L (some .boolean) 1 0 98 16364 (some cq_L_258.2.2.1) 5000 true cq_L_258.1 alt = true := by
  have e1 : cq_L_258.2.2.2 = al_L_258 := by dsimp only [cq_L_258]
  have e2 : cq_L_258.2.2.1 = mu_L_258 := by dsimp only [cq_L_258]
  have e3 : cq_L_258.1 = 1420 := by dsimp only [cq_L_258]
  rw [e1, e2, e3]
  exact rf_pcs (l := al_L_258) 0 ck_L_c_258 (List.isEmpty_iff.mp ck_L_n_258)
theorem ck_L_d_259 : ∀ alt ∈ cq_L_259.2.2.2, rf_run nm_cl nm_ct en_xs 8 xx_L kc_L cu_L po_L (some .boolean) 1 0 98 16364 (some cq_L_259.2.2.1) 5000 true cq_L_259.1 alt = true := by
  have e1 : cq_L_259.2.2.2 = al_L_259 := by dsimp only [cq_L_259]
  have e2 : cq_L_259.2.2.1 = mu_L_259 := by dsimp only [cq_L_259]
  have e3 : cq_L_259.1 = 1420 := by dsimp only [cq_L_259]
  rw [e1, e2, e3]
  exact rf_pcs (l := al_L_259) 0 ck_L_c_259 (List.isEmpty_iff.mp ck_L_n_259)
theorem ck_L_d_260 : ∀ alt ∈ cq_L_260.2.2.2, rf_run nm_cl nm_ct en_xs 8 xx_L kc_L cu_L po_L (some .boolean) 1 0 98 16364 (some cq_L_260.2.2.1) 5000 true cq_L_260.1 alt = true := by
  have e1 : cq_L_260.2.2.2 = al_L_260 := by dsimp only [cq_L_260]
  have e2 : cq_L_260.2.2.1 = mu_L_260 := by dsimp only [cq_L_260]
  have e3 : cq_L_260.1 = 1420 := by dsimp only [cq_L_260]
  rw [e1, e2, e3]
  exact rf_pcs (l := al_L_260) 0 ck_L_c_260 (List.isEmpty_iff.mp ck_L_n_260)
theorem ck_L_d_261 : ∀ alt ∈ cq_L_261.2.2.2, rf_run nm_cl nm_ct en_xs 8 xx_L kc_L cu_L po_L (some .boolean) 1 0 98 16364 (some cq_L_261.2.2.1) 5000 true cq_L_261.1 alt = true := by
  have e1 : cq_L_261.2.2.2 = al_L_261 := by dsimp only [cq_L_261]
  have e2 : cq_L_261.2.2.1 = mu_L_261 := by dsimp only [cq_L_261]
  have e3 : cq_L_261.1 = 1420 := by dsimp only [cq_L_261]
  rw [e1, e2, e3]
  exact rf_pcs (l := al_L_261) 0 ck_L_c_261 (List.isEmpty_iff.mp ck_L_n_261)
theorem ck_L_d_262 : ∀ alt ∈ cq_L_262.2.2.2, rf_run nm_cl nm_ct en_xs 8 xx_L kc_L cu_L po_L (some .boolean) 1 0 98 16364 (some cq_L_262.2.2.1) 5000 true cq_L_262.1 alt = true := by
  have e1 : cq_L_262.2.2.2 = al_L_262 := by dsimp only [cq_L_262]
  have e2 : cq_L_262.2.2.1 = mu_L_262 := by dsimp only [cq_L_262]
  have e3 : cq_L_262.1 = 1420 := by dsimp only [cq_L_262]
  rw [e1, e2, e3]
  exact rf_pcs (l := al_L_262) 0 ck_L_c_262 (List.isEmpty_iff.mp ck_L_n_262)
theorem ck_L_d_263 : ∀ alt ∈ cq_L_263.2.2.2, rf_run nm_cl nm_ct en_xs 8 xx_L kc_L cu_L po_L (some .boolean) 1 0 98 16364 (some cq_L_263.2.2.1) 5000 true cq_L_263.1 alt = true := by
  have e1 : cq_L_263.2.2.2 = al_L_263 := by dsimp only [cq_L_263]
  have e2 : cq_L_263.2.2.1 = mu_L_263 := by dsimp only [cq_L_263]
  have e3 : cq_L_263.1 = 1420 := by dsimp only [cq_L_263]
  rw [e1, e2, e3]
  exact rf_pcs (l := al_L_263) 0 ck_L_c_263 (List.isEmpty_iff.mp ck_L_n_263)
theorem ck_L_d_264 : ∀ alt ∈ cq_L_264.2.2.2, rf_run nm_cl nm_ct en_xs 8 xx_L kc_L cu_L po_L (some .boolean) 1 0 98 16364 (some cq_L_264.2.2.1) 5000 true cq_L_264.1 alt = true := by
  have e1 : cq_L_264.2.2.2 = al_L_264 := by dsimp only [cq_L_264]
  have e2 : cq_L_264.2.2.1 = mu_L_264 := by dsimp only [cq_L_264]
  have e3 : cq_L_264.1 = 1420 := by dsimp only [cq_L_264]
  rw [e1, e2, e3]
  exact rf_pcs (l := al_L_264) 0 ck_L_c_264 (List.isEmpty_iff.mp ck_L_n_264)
theorem ck_L_d_265 : ∀ alt ∈ cq_L_265.2.2.2, rf_run nm_cl nm_ct en_xs 8 xx_L kc_L cu_L po_L (some .boolean) 1 0 98 16364 (some cq_L_265.2.2.1) 5000 true cq_L_265.1 alt = true := by
  have e1 : cq_L_265.2.2.2 = al_L_265 := by dsimp only [cq_L_265]
  have e2 : cq_L_265.2.2.1 = mu_L_265 := by dsimp only [cq_L_265]
  have e3 : cq_L_265.1 = 1420 := by dsimp only [cq_L_265]
  rw [e1, e2, e3]
  exact rf_pcs (l := al_L_265) 0 ck_L_c_265 (List.isEmpty_iff.mp ck_L_n_265)
theorem ck_L_d_266 : ∀ alt ∈ cq_L_266.2.2.2, rf_run nm_cl nm_ct en_xs 8 xx_L kc_L cu_L po_L (some .boolean) 1 0 98 16364 (some cq_L_266.2.2.1) 5000 true cq_L_266.1 alt = true := by
  have e1 : cq_L_266.2.2.2 = al_L_266 := by dsimp only [cq_L_266]
  have e2 : cq_L_266.2.2.1 = mu_L_266 := by dsimp only [cq_L_266]
  have e3 : cq_L_266.1 = 1420 := by dsimp only [cq_L_266]
  rw [e1, e2, e3]
  exact rf_pcs (l := al_L_266) 1 ck_L_c_266 (List.isEmpty_iff.mp ck_L_n_266)
theorem ck_L_d_267 : ∀ alt ∈ cq_L_267.2.2.2, rf_run nm_cl nm_ct en_xs 8 xx_L kc_L cu_L po_L (some .boolean) 1 0 98 16364 (some cq_L_267.2.2.1) 5000 true cq_L_267.1 alt = true := by
  have e1 : cq_L_267.2.2.2 = al_L_267 := by dsimp only [cq_L_267]
  have e2 : cq_L_267.2.2.1 = mu_L_267 := by dsimp only [cq_L_267]
  have e3 : cq_L_267.1 = 1420 := by dsimp only [cq_L_267]
  rw [e1, e2, e3]
  exact rf_pcs (l := al_L_267) 0 ck_L_c_267 (List.isEmpty_iff.mp ck_L_n_267)
theorem ck_L_d_268 : ∀ alt ∈ cq_L_268.2.2.2, rf_run nm_cl nm_ct en_xs 8 xx_L kc_L cu_L po_L (some .boolean) 1 0 98 16364 (some cq_L_268.2.2.1) 5000 true cq_L_268.1 alt = true := by
  have e1 : cq_L_268.2.2.2 = al_L_268 := by dsimp only [cq_L_268]
  have e2 : cq_L_268.2.2.1 = mu_L_268 := by dsimp only [cq_L_268]
  have e3 : cq_L_268.1 = 1420 := by dsimp only [cq_L_268]
  rw [e1, e2, e3]
  exact rf_pcs (l := al_L_268) 0 ck_L_c_268 (List.isEmpty_iff.mp ck_L_n_268)
theorem ck_L_d_269 : ∀ alt ∈ cq_L_269.2.2.2, rf_run nm_cl nm_ct en_xs 8 xx_L kc_L cu_L po_L (some .boolean) 1 0 98 16364 (some cq_L_269.2.2.1) 5000 true cq_L_269.1 alt = true := by
  have e1 : cq_L_269.2.2.2 = al_L_269 := by dsimp only [cq_L_269]
  have e2 : cq_L_269.2.2.1 = mu_L_269 := by dsimp only [cq_L_269]
  have e3 : cq_L_269.1 = 1420 := by dsimp only [cq_L_269]
  rw [e1, e2, e3]
  exact rf_pcs (l := al_L_269) 0 ck_L_c_269 (List.isEmpty_iff.mp ck_L_n_269)
theorem ck_L_d_270 : ∀ alt ∈ cq_L_270.2.2.2, rf_run nm_cl nm_ct en_xs 8 xx_L kc_L cu_L po_L (some .boolean) 1 0 98 16364 (some cq_L_270.2.2.1) 5000 true cq_L_270.1 alt = true := by
  have e1 : cq_L_270.2.2.2 = al_L_270 := by dsimp only [cq_L_270]
  have e2 : cq_L_270.2.2.1 = mu_L_270 := by dsimp only [cq_L_270]
  have e3 : cq_L_270.1 = 1420 := by dsimp only [cq_L_270]
  rw [e1, e2, e3]
  exact rf_pcs (l := al_L_270) 0 ck_L_c_270 (List.isEmpty_iff.mp ck_L_n_270)
theorem ck_L_d_271 : ∀ alt ∈ cq_L_271.2.2.2, rf_run nm_cl nm_ct en_xs 8 xx_L kc_L cu_L po_L (some .boolean) 1 0 98 16364 (some cq_L_271.2.2.1) 5000 true cq_L_271.1 alt = true := by
  have e1 : cq_L_271.2.2.2 = al_L_271 := by dsimp only [cq_L_271]
  have e2 : cq_L_271.2.2.1 = mu_L_271 := by dsimp only [cq_L_271]
  have e3 : cq_L_271.1 = 1420 := by dsimp only [cq_L_271]
  rw [e1, e2, e3]
  exact rf_pcs (l := al_L_271) 0 ck_L_c_271 (List.isEmpty_iff.mp ck_L_n_271)
theorem ck_L_d_272 : ∀ alt ∈ cq_L_272.2.2.2, rf_run nm_cl nm_ct en_xs 8 xx_L kc_L cu_L po_L (some .boolean) 1 0 98 16364 (some cq_L_272.2.2.1) 5000 true cq_L_272.1 alt = true := by
  have e1 : cq_L_272.2.2.2 = al_L_272 := by dsimp only [cq_L_272]
  have e2 : cq_L_272.2.2.1 = mu_L_272 := by dsimp only [cq_L_272]
  have e3 : cq_L_272.1 = 1420 := by dsimp only [cq_L_272]
  rw [e1, e2, e3]
  exact rf_pcs (l := al_L_272) 0 ck_L_c_272 (List.isEmpty_iff.mp ck_L_n_272)
theorem ck_L_d_273 : ∀ alt ∈ cq_L_273.2.2.2, rf_run nm_cl nm_ct en_xs 8 xx_L kc_L cu_L po_L (some .boolean) 1 0 98 16364 (some cq_L_273.2.2.1) 5000 true cq_L_273.1 alt = true := by
  have e1 : cq_L_273.2.2.2 = al_L_273 := by dsimp only [cq_L_273]
  have e2 : cq_L_273.2.2.1 = mu_L_273 := by dsimp only [cq_L_273]
  have e3 : cq_L_273.1 = 1420 := by dsimp only [cq_L_273]
  rw [e1, e2, e3]
  exact rf_pcs (l := al_L_273) 0 ck_L_c_273 (List.isEmpty_iff.mp ck_L_n_273)
theorem ck_L_d_274 : ∀ alt ∈ cq_L_274.2.2.2, rf_run nm_cl nm_ct en_xs 8 xx_L kc_L cu_L po_L (some .boolean) 1 0 98 16364 (some cq_L_274.2.2.1) 5000 true cq_L_274.1 alt = true := by
  have e1 : cq_L_274.2.2.2 = al_L_274 := by dsimp only [cq_L_274]
  have e2 : cq_L_274.2.2.1 = mu_L_274 := by dsimp only [cq_L_274]
  have e3 : cq_L_274.1 = 1420 := by dsimp only [cq_L_274]
  rw [e1, e2, e3]
  exact rf_pcs (l := al_L_274) 0 ck_L_c_274 (List.isEmpty_iff.mp ck_L_n_274)
theorem ck_L_d_275 : ∀ alt ∈ cq_L_275.2.2.2, rf_run nm_cl nm_ct en_xs 8 xx_L kc_L cu_L po_L (some .boolean) 1 0 98 16364 (some cq_L_275.2.2.1) 5000 true cq_L_275.1 alt = true := by
  have e1 : cq_L_275.2.2.2 = al_L_275 := by dsimp only [cq_L_275]
  have e2 : cq_L_275.2.2.1 = mu_L_275 := by dsimp only [cq_L_275]
  have e3 : cq_L_275.1 = 1420 := by dsimp only [cq_L_275]
  rw [e1, e2, e3]
  exact rf_pcs (l := al_L_275) 0 ck_L_c_275 (List.isEmpty_iff.mp ck_L_n_275)
theorem ck_L_d_276 : ∀ alt ∈ cq_L_276.2.2.2, rf_run nm_cl nm_ct en_xs 8 xx_L kc_L cu_L po_L (some .boolean) 1 0 98 16364 (some cq_L_276.2.2.1) 5000 true cq_L_276.1 alt = true := by
  have e1 : cq_L_276.2.2.2 = al_L_276 := by dsimp only [cq_L_276]
  have e2 : cq_L_276.2.2.1 = mu_L_276 := by dsimp only [cq_L_276]
  have e3 : cq_L_276.1 = 1420 := by dsimp only [cq_L_276]
  rw [e1, e2, e3]
  exact rf_pcs (l := al_L_276) 0 ck_L_c_276 (List.isEmpty_iff.mp ck_L_n_276)
theorem ck_L_d_277 : ∀ alt ∈ cq_L_277.2.2.2, rf_run nm_cl nm_ct en_xs 8 xx_L kc_L cu_L po_L (some .boolean) 1 0 98 16364 (some cq_L_277.2.2.1) 5000 true cq_L_277.1 alt = true := by
  have e1 : cq_L_277.2.2.2 = al_L_277 := by dsimp only [cq_L_277]
  have e2 : cq_L_277.2.2.1 = mu_L_277 := by dsimp only [cq_L_277]
  have e3 : cq_L_277.1 = 1420 := by dsimp only [cq_L_277]
  rw [e1, e2, e3]
  exact rf_pcs (l := al_L_277) 0 ck_L_c_277 (List.isEmpty_iff.mp ck_L_n_277)
theorem ck_L_d_278 : ∀ alt ∈ cq_L_278.2.2.2, rf_run nm_cl nm_ct en_xs 8 xx_L kc_L cu_L po_L (some .boolean) 1 0 98 16364 (some cq_L_278.2.2.1) 5000 true cq_L_278.1 alt = true := by
  have e1 : cq_L_278.2.2.2 = al_L_278 := by dsimp only [cq_L_278]
  have e2 : cq_L_278.2.2.1 = mu_L_278 := by dsimp only [cq_L_278]
  have e3 : cq_L_278.1 = 1420 := by dsimp only [cq_L_278]
  rw [e1, e2, e3]
  exact rf_pcs (l := al_L_278) 0 ck_L_c_278 (List.isEmpty_iff.mp ck_L_n_278)
theorem ck_L_d_279 : ∀ alt ∈ cq_L_279.2.2.2, rf_run nm_cl nm_ct en_xs 8 xx_L kc_L cu_L po_L (some .boolean) 1 0 98 16364 (some cq_L_279.2.2.1) 5000 true cq_L_279.1 alt = true := by
  have e1 : cq_L_279.2.2.2 = al_L_279 := by dsimp only [cq_L_279]
  have e2 : cq_L_279.2.2.1 = mu_L_279 := by dsimp only [cq_L_279]
  have e3 : cq_L_279.1 = 1420 := by dsimp only [cq_L_279]
  rw [e1, e2, e3]
  exact rf_pcs (l := al_L_279) 0 ck_L_c_279 (List.isEmpty_iff.mp ck_L_n_279)
theorem ck_L_d_280 : ∀ alt ∈ cq_L_280.2.2.2, rf_run nm_cl nm_ct en_xs 8 xx_L kc_L cu_L po_L (some .boolean) 1 0 98 16364 (some cq_L_280.2.2.1) 5000 true cq_L_280.1 alt = true := by
  have e1 : cq_L_280.2.2.2 = al_L_280 := by dsimp only [cq_L_280]
  have e2 : cq_L_280.2.2.1 = mu_L_280 := by dsimp only [cq_L_280]
  have e3 : cq_L_280.1 = 1420 := by dsimp only [cq_L_280]
  rw [e1, e2, e3]
  exact rf_pcs (l := al_L_280) 0 ck_L_c_280 (List.isEmpty_iff.mp ck_L_n_280)
theorem ck_L_d_281 : ∀ alt ∈ cq_L_281.2.2.2, rf_run nm_cl nm_ct en_xs 8 xx_L kc_L cu_L po_L (some .boolean) 1 0 98 16364 (some cq_L_281.2.2.1) 5000 true cq_L_281.1 alt = true := by
  have e1 : cq_L_281.2.2.2 = al_L_281 := by dsimp only [cq_L_281]
  have e2 : cq_L_281.2.2.1 = mu_L_281 := by dsimp only [cq_L_281]
  have e3 : cq_L_281.1 = 1420 := by dsimp only [cq_L_281]
  rw [e1, e2, e3]
  exact rf_pcs (l := al_L_281) 0 ck_L_c_281 (List.isEmpty_iff.mp ck_L_n_281)
theorem ck_L_d_282 : ∀ alt ∈ cq_L_282.2.2.2, rf_run nm_cl nm_ct en_xs 8 xx_L kc_L cu_L po_L (some .boolean) 1 0 98 16364 (some cq_L_282.2.2.1) 5000 true cq_L_282.1 alt = true := by
  have e1 : cq_L_282.2.2.2 = al_L_282 := by dsimp only [cq_L_282]
  have e2 : cq_L_282.2.2.1 = mu_L_282 := by dsimp only [cq_L_282]
  have e3 : cq_L_282.1 = 1420 := by dsimp only [cq_L_282]
  rw [e1, e2, e3]
  exact rf_pcs (l := al_L_282) 0 ck_L_c_282 (List.isEmpty_iff.mp ck_L_n_282)
theorem ck_L_d_283 : ∀ alt ∈ cq_L_283.2.2.2, rf_run nm_cl nm_ct en_xs 8 xx_L kc_L cu_L po_L (some .boolean) 1 0 98 16364 (some cq_L_283.2.2.1) 5000 true cq_L_283.1 alt = true := by
  have e1 : cq_L_283.2.2.2 = al_L_283 := by dsimp only [cq_L_283]
  have e2 : cq_L_283.2.2.1 = mu_L_283 := by dsimp only [cq_L_283]
  have e3 : cq_L_283.1 = 1420 := by dsimp only [cq_L_283]
  rw [e1, e2, e3]
  exact rf_pcs (l := al_L_283) 0 ck_L_c_283 (List.isEmpty_iff.mp ck_L_n_283)
theorem ck_L_d_284 : ∀ alt ∈ cq_L_284.2.2.2, rf_run nm_cl nm_ct en_xs 8 xx_L kc_L cu_L po_L (some .boolean) 1 0 98 16364 (some cq_L_284.2.2.1) 5000 true cq_L_284.1 alt = true := by
  have e1 : cq_L_284.2.2.2 = al_L_284 := by dsimp only [cq_L_284]
  have e2 : cq_L_284.2.2.1 = mu_L_284 := by dsimp only [cq_L_284]
  have e3 : cq_L_284.1 = 1420 := by dsimp only [cq_L_284]
  rw [e1, e2, e3]
  exact rf_pcs (l := al_L_284) 0 ck_L_c_284 (List.isEmpty_iff.mp ck_L_n_284)
theorem ck_L_d_285 : ∀ alt ∈ cq_L_285.2.2.2, rf_run nm_cl nm_ct en_xs 8 xx_L kc_L cu_L po_L (some .boolean) 1 0 98 16364 (some cq_L_285.2.2.1) 5000 true cq_L_285.1 alt = true := by
  have e1 : cq_L_285.2.2.2 = al_L_285 := by dsimp only [cq_L_285]
  have e2 : cq_L_285.2.2.1 = mu_L_285 := by dsimp only [cq_L_285]
  have e3 : cq_L_285.1 = 1420 := by dsimp only [cq_L_285]
  rw [e1, e2, e3]
  exact rf_pcs (l := al_L_285) 0 ck_L_c_285 (List.isEmpty_iff.mp ck_L_n_285)
theorem ck_L_d_286 : ∀ alt ∈ cq_L_286.2.2.2, rf_run nm_cl nm_ct en_xs 8 xx_L kc_L cu_L po_L (some .boolean) 1 0 98 16364 (some cq_L_286.2.2.1) 5000 true cq_L_286.1 alt = true := by
  have e1 : cq_L_286.2.2.2 = al_L_286 := by dsimp only [cq_L_286]
  have e2 : cq_L_286.2.2.1 = mu_L_286 := by dsimp only [cq_L_286]
  have e3 : cq_L_286.1 = 1420 := by dsimp only [cq_L_286]
  rw [e1, e2, e3]
  exact rf_pcs (l := al_L_286) 0 ck_L_c_286 (List.isEmpty_iff.mp ck_L_n_286)
theorem ck_L_d_287 : ∀ alt ∈ cq_L_287.2.2.2, rf_run nm_cl nm_ct en_xs 8 xx_L kc_L cu_L po_L (some .boolean) 1 0 98 16364 (some cq_L_287.2.2.1) 5000 true cq_L_287.1 alt = true := by
  have e1 : cq_L_287.2.2.2 = al_L_287 := by dsimp only [cq_L_287]
  have e2 : cq_L_287.2.2.1 = mu_L_287 := by dsimp only [cq_L_287]
  have e3 : cq_L_287.1 = 1420 := by dsimp only [cq_L_287]
  rw [e1, e2, e3]
  exact rf_pcs (l := al_L_287) 0 ck_L_c_287 (List.isEmpty_iff.mp ck_L_n_287)
theorem ck_L_d_288 : ∀ alt ∈ cq_L_288.2.2.2, rf_run nm_cl nm_ct en_xs 8 xx_L kc_L cu_L po_L (some .boolean) 1 0 98 16364 (some cq_L_288.2.2.1) 5000 true cq_L_288.1 alt = true := by
  have e1 : cq_L_288.2.2.2 = al_L_288 := by dsimp only [cq_L_288]
  have e2 : cq_L_288.2.2.1 = mu_L_288 := by dsimp only [cq_L_288]
  have e3 : cq_L_288.1 = 1420 := by dsimp only [cq_L_288]
  rw [e1, e2, e3]
  exact rf_pcs (l := al_L_288) 0 ck_L_c_288 (List.isEmpty_iff.mp ck_L_n_288)
theorem ck_L_d_289 : ∀ alt ∈ cq_L_289.2.2.2, rf_run nm_cl nm_ct en_xs 8 xx_L kc_L cu_L po_L (some .boolean) 1 0 98 16364 (some cq_L_289.2.2.1) 5000 true cq_L_289.1 alt = true := by
  have e1 : cq_L_289.2.2.2 = al_L_289 := by dsimp only [cq_L_289]
  have e2 : cq_L_289.2.2.1 = mu_L_289 := by dsimp only [cq_L_289]
  have e3 : cq_L_289.1 = 1420 := by dsimp only [cq_L_289]
  rw [e1, e2, e3]
  exact rf_pcs (l := al_L_289) 0 ck_L_c_289 (List.isEmpty_iff.mp ck_L_n_289)
theorem ck_L_d_290 : ∀ alt ∈ cq_L_290.2.2.2, rf_run nm_cl nm_ct en_xs 8 xx_L kc_L cu_L po_L (some .boolean) 1 0 98 16364 (some cq_L_290.2.2.1) 5000 true cq_L_290.1 alt = true := by
  have e1 : cq_L_290.2.2.2 = al_L_290 := by dsimp only [cq_L_290]
  have e2 : cq_L_290.2.2.1 = mu_L_290 := by dsimp only [cq_L_290]
  have e3 : cq_L_290.1 = 1420 := by dsimp only [cq_L_290]
  rw [e1, e2, e3]
  exact rf_pcs (l := al_L_290) 0 ck_L_c_290 (List.isEmpty_iff.mp ck_L_n_290)
theorem ck_L_d_291 : ∀ alt ∈ cq_L_291.2.2.2, rf_run nm_cl nm_ct en_xs 8 xx_L kc_L cu_L po_L (some .boolean) 1 0 98 16364 (some cq_L_291.2.2.1) 5000 true cq_L_291.1 alt = true := by
  have e1 : cq_L_291.2.2.2 = al_L_291 := by dsimp only [cq_L_291]
  have e2 : cq_L_291.2.2.1 = mu_L_291 := by dsimp only [cq_L_291]
  have e3 : cq_L_291.1 = 1420 := by dsimp only [cq_L_291]
  rw [e1, e2, e3]
  exact rf_pcs (l := al_L_291) 0 ck_L_c_291 (List.isEmpty_iff.mp ck_L_n_291)
theorem ck_L_d_292 : ∀ alt ∈ cq_L_292.2.2.2, rf_run nm_cl nm_ct en_xs 8 xx_L kc_L cu_L po_L (some .boolean) 1 0 98 16364 (some cq_L_292.2.2.1) 5000 true cq_L_292.1 alt = true := by
  have e1 : cq_L_292.2.2.2 = al_L_292 := by dsimp only [cq_L_292]
  have e2 : cq_L_292.2.2.1 = mu_L_292 := by dsimp only [cq_L_292]
  have e3 : cq_L_292.1 = 1420 := by dsimp only [cq_L_292]
  rw [e1, e2, e3]
  exact rf_pcs (l := al_L_292) 0 ck_L_c_292 (List.isEmpty_iff.mp ck_L_n_292)
theorem ck_L_d_293 : ∀ alt ∈ cq_L_293.2.2.2, rf_run nm_cl nm_ct en_xs 8 xx_L kc_L cu_L po_L (some .boolean) 1 0 98 16364 (some cq_L_293.2.2.1) 5000 true cq_L_293.1 alt = true := by
  have e1 : cq_L_293.2.2.2 = al_L_293 := by dsimp only [cq_L_293]
  have e2 : cq_L_293.2.2.1 = mu_L_293 := by dsimp only [cq_L_293]
  have e3 : cq_L_293.1 = 1420 := by dsimp only [cq_L_293]
  rw [e1, e2, e3]
  exact rf_pcs (l := al_L_293) 0 ck_L_c_293 (List.isEmpty_iff.mp ck_L_n_293)
theorem ck_L_d_294 : ∀ alt ∈ cq_L_294.2.2.2, rf_run nm_cl nm_ct en_xs 8 xx_L kc_L cu_L po_L (some .boolean) 1 0 98 16364 (some cq_L_294.2.2.1) 5000 true cq_L_294.1 alt = true := by
  have e1 : cq_L_294.2.2.2 = al_L_294 := by dsimp only [cq_L_294]
  have e2 : cq_L_294.2.2.1 = mu_L_294 := by dsimp only [cq_L_294]
  have e3 : cq_L_294.1 = 1420 := by dsimp only [cq_L_294]
  rw [e1, e2, e3]
  exact rf_pcs (l := al_L_294) 0 ck_L_c_294 (List.isEmpty_iff.mp ck_L_n_294)
theorem ck_L_d_295 : ∀ alt ∈ cq_L_295.2.2.2, rf_run nm_cl nm_ct en_xs 8 xx_L kc_L cu_L po_L (some .boolean) 1 0 98 16364 (some cq_L_295.2.2.1) 5000 true cq_L_295.1 alt = true := by
  have e1 : cq_L_295.2.2.2 = al_L_295 := by dsimp only [cq_L_295]
  have e2 : cq_L_295.2.2.1 = mu_L_295 := by dsimp only [cq_L_295]
  have e3 : cq_L_295.1 = 1420 := by dsimp only [cq_L_295]
  rw [e1, e2, e3]
  exact rf_pcs (l := al_L_295) 0 ck_L_c_295 (List.isEmpty_iff.mp ck_L_n_295)
theorem ck_L_d_296 : ∀ alt ∈ cq_L_296.2.2.2, rf_run nm_cl nm_ct en_xs 8 xx_L kc_L cu_L po_L (some .boolean) 1 0 98 16364 (some cq_L_296.2.2.1) 5000 true cq_L_296.1 alt = true := by
  have e1 : cq_L_296.2.2.2 = al_L_296 := by dsimp only [cq_L_296]
  have e2 : cq_L_296.2.2.1 = mu_L_296 := by dsimp only [cq_L_296]
  have e3 : cq_L_296.1 = 1420 := by dsimp only [cq_L_296]
  rw [e1, e2, e3]
  exact rf_pcs (l := al_L_296) 0 ck_L_c_296 (List.isEmpty_iff.mp ck_L_n_296)
theorem ck_L_d_297 : ∀ alt ∈ cq_L_297.2.2.2, rf_run nm_cl nm_ct en_xs 8 xx_L kc_L cu_L po_L (some .boolean) 1 0 98 16364 (some cq_L_297.2.2.1) 5000 true cq_L_297.1 alt = true := by
  have e1 : cq_L_297.2.2.2 = al_L_297 := by dsimp only [cq_L_297]
  have e2 : cq_L_297.2.2.1 = mu_L_297 := by dsimp only [cq_L_297]
  have e3 : cq_L_297.1 = 1420 := by dsimp only [cq_L_297]
  rw [e1, e2, e3]
  exact rf_pcs (l := al_L_297) 0 ck_L_c_297 (List.isEmpty_iff.mp ck_L_n_297)
theorem ck_L_d_298 : ∀ alt ∈ cq_L_298.2.2.2, rf_run nm_cl nm_ct en_xs 8 xx_L kc_L cu_L po_L (some .boolean) 1 0 98 16364 (some cq_L_298.2.2.1) 5000 true cq_L_298.1 alt = true := by
  have e1 : cq_L_298.2.2.2 = al_L_298 := by dsimp only [cq_L_298]
  have e2 : cq_L_298.2.2.1 = mu_L_298 := by dsimp only [cq_L_298]
  have e3 : cq_L_298.1 = 1420 := by dsimp only [cq_L_298]
  rw [e1, e2, e3]
  exact rf_pcs (l := al_L_298) 0 ck_L_c_298 (List.isEmpty_iff.mp ck_L_n_298)
theorem ck_L_d_299 : ∀ alt ∈ cq_L_299.2.2.2, rf_run nm_cl nm_ct en_xs 8 xx_L kc_L cu_L po_L (some .boolean) 1 0 98 16364 (some cq_L_299.2.2.1) 5000 true cq_L_299.1 alt = true := by
  have e1 : cq_L_299.2.2.2 = al_L_299 := by dsimp only [cq_L_299]
  have e2 : cq_L_299.2.2.1 = mu_L_299 := by dsimp only [cq_L_299]
  have e3 : cq_L_299.1 = 1420 := by dsimp only [cq_L_299]
  rw [e1, e2, e3]
  exact rf_pcs (l := al_L_299) 0 ck_L_c_299 (List.isEmpty_iff.mp ck_L_n_299)
theorem ck_L_d_300 : ∀ alt ∈ cq_L_300.2.2.2, rf_run nm_cl nm_ct en_xs 8 xx_L kc_L cu_L po_L (some .boolean) 1 0 98 16364 (some cq_L_300.2.2.1) 5000 true cq_L_300.1 alt = true := by
  have e1 : cq_L_300.2.2.2 = al_L_300 := by dsimp only [cq_L_300]
  have e2 : cq_L_300.2.2.1 = mu_L_300 := by dsimp only [cq_L_300]
  have e3 : cq_L_300.1 = 1420 := by dsimp only [cq_L_300]
  rw [e1, e2, e3]
  exact rf_pcs (l := al_L_300) 0 ck_L_c_300 (List.isEmpty_iff.mp ck_L_n_300)
theorem ck_L_d_301 : ∀ alt ∈ cq_L_301.2.2.2, rf_run nm_cl nm_ct en_xs 8 xx_L kc_L cu_L po_L (some .boolean) 1 0 98 16364 (some cq_L_301.2.2.1) 5000 true cq_L_301.1 alt = true := by
  have e1 : cq_L_301.2.2.2 = al_L_301 := by dsimp only [cq_L_301]
  have e2 : cq_L_301.2.2.1 = mu_L_301 := by dsimp only [cq_L_301]
  have e3 : cq_L_301.1 = 1420 := by dsimp only [cq_L_301]
  rw [e1, e2, e3]
  exact rf_pcs (l := al_L_301) 1 ck_L_c_301 (List.isEmpty_iff.mp ck_L_n_301)
theorem ck_L_d_302 : ∀ alt ∈ cq_L_302.2.2.2, rf_run nm_cl nm_ct en_xs 8 xx_L kc_L cu_L po_L (some .boolean) 1 0 98 16364 (some cq_L_302.2.2.1) 5000 true cq_L_302.1 alt = true := by
  have e1 : cq_L_302.2.2.2 = al_L_302 := by dsimp only [cq_L_302]
  have e2 : cq_L_302.2.2.1 = mu_L_302 := by dsimp only [cq_L_302]
  have e3 : cq_L_302.1 = 1420 := by dsimp only [cq_L_302]
  rw [e1, e2, e3]
  exact rf_pcs (l := al_L_302) 0 ck_L_c_302 (List.isEmpty_iff.mp ck_L_n_302)
theorem ck_L_d_303 : ∀ alt ∈ cq_L_303.2.2.2, rf_run nm_cl nm_ct en_xs 8 xx_L kc_L cu_L po_L (some .boolean) 1 0 98 16364 (some cq_L_303.2.2.1) 5000 true cq_L_303.1 alt = true := by
  have e1 : cq_L_303.2.2.2 = al_L_303 := by dsimp only [cq_L_303]
  have e2 : cq_L_303.2.2.1 = mu_L_303 := by dsimp only [cq_L_303]
  have e3 : cq_L_303.1 = 1420 := by dsimp only [cq_L_303]
  rw [e1, e2, e3]
  exact rf_pcs (l := al_L_303) 0 ck_L_c_303 (List.isEmpty_iff.mp ck_L_n_303)
theorem ck_L_d_304 : ∀ alt ∈ cq_L_304.2.2.2, rf_run nm_cl nm_ct en_xs 8 xx_L kc_L cu_L po_L (some .boolean) 1 0 98 16364 (some cq_L_304.2.2.1) 5000 true cq_L_304.1 alt = true := by
  have e1 : cq_L_304.2.2.2 = al_L_304 := by dsimp only [cq_L_304]
  have e2 : cq_L_304.2.2.1 = mu_L_304 := by dsimp only [cq_L_304]
  have e3 : cq_L_304.1 = 1420 := by dsimp only [cq_L_304]
  rw [e1, e2, e3]
  exact rf_pcs (l := al_L_304) 0 ck_L_c_304 (List.isEmpty_iff.mp ck_L_n_304)
theorem ck_L_d_305 : ∀ alt ∈ cq_L_305.2.2.2, rf_run nm_cl nm_ct en_xs 8 xx_L kc_L cu_L po_L (some .boolean) 1 0 98 16364 (some cq_L_305.2.2.1) 5000 true cq_L_305.1 alt = true := by
  have e1 : cq_L_305.2.2.2 = al_L_305 := by dsimp only [cq_L_305]
  have e2 : cq_L_305.2.2.1 = mu_L_305 := by dsimp only [cq_L_305]
  have e3 : cq_L_305.1 = 1420 := by dsimp only [cq_L_305]
  rw [e1, e2, e3]
  exact rf_pcs (l := al_L_305) 0 ck_L_c_305 (List.isEmpty_iff.mp ck_L_n_305)
theorem ck_L_d_306 : ∀ alt ∈ cq_L_306.2.2.2, rf_run nm_cl nm_ct en_xs 8 xx_L kc_L cu_L po_L (some .boolean) 1 0 98 16364 (some cq_L_306.2.2.1) 5000 true cq_L_306.1 alt = true := by
  have e1 : cq_L_306.2.2.2 = al_L_306 := by dsimp only [cq_L_306]
  have e2 : cq_L_306.2.2.1 = mu_L_306 := by dsimp only [cq_L_306]
  have e3 : cq_L_306.1 = 1420 := by dsimp only [cq_L_306]
  rw [e1, e2, e3]
  exact rf_pcs (l := al_L_306) 0 ck_L_c_306 (List.isEmpty_iff.mp ck_L_n_306)
theorem ck_L_d_307 : ∀ alt ∈ cq_L_307.2.2.2, rf_run nm_cl nm_ct en_xs 8 xx_L kc_L cu_L po_L (some .boolean) 1 0 98 16364 (some cq_L_307.2.2.1) 5000 true cq_L_307.1 alt = true := by
  have e1 : cq_L_307.2.2.2 = al_L_307 := by dsimp only [cq_L_307]
  have e2 : cq_L_307.2.2.1 = mu_L_307 := by dsimp only [cq_L_307]
  have e3 : cq_L_307.1 = 1420 := by dsimp only [cq_L_307]
  rw [e1, e2, e3]
  exact rf_pcs (l := al_L_307) 0 ck_L_c_307 (List.isEmpty_iff.mp ck_L_n_307)
theorem ck_L_d_308 : ∀ alt ∈ cq_L_308.2.2.2, rf_run nm_cl nm_ct en_xs 8 xx_L kc_L cu_L po_L (some .boolean) 1 0 98 16364 (some cq_L_308.2.2.1) 5000 true cq_L_308.1 alt = true := by
  have e1 : cq_L_308.2.2.2 = al_L_308 := by dsimp only [cq_L_308]
  have e2 : cq_L_308.2.2.1 = mu_L_308 := by dsimp only [cq_L_308]
  have e3 : cq_L_308.1 = 1420 := by dsimp only [cq_L_308]
  rw [e1, e2, e3]
  exact rf_pcs (l := al_L_308) 0 ck_L_c_308 (List.isEmpty_iff.mp ck_L_n_308)
theorem ck_L_d_309 : ∀ alt ∈ cq_L_309.2.2.2, rf_run nm_cl nm_ct en_xs 8 xx_L kc_L cu_L po_L (some .boolean) 1 0 98 16364 (some cq_L_309.2.2.1) 5000 true cq_L_309.1 alt = true := by
  have e1 : cq_L_309.2.2.2 = al_L_309 := by dsimp only [cq_L_309]
  have e2 : cq_L_309.2.2.1 = mu_L_309 := by dsimp only [cq_L_309]
  have e3 : cq_L_309.1 = 1420 := by dsimp only [cq_L_309]
  rw [e1, e2, e3]
  exact rf_pcs (l := al_L_309) 0 ck_L_c_309 (List.isEmpty_iff.mp ck_L_n_309)
theorem ck_L_d_310 : ∀ alt ∈ cq_L_310.2.2.2, rf_run nm_cl nm_ct en_xs 8 xx_L kc_L cu_L po_L (some .boolean) 1 0 98 16364 (some cq_L_310.2.2.1) 5000 true cq_L_310.1 alt = true := by
  have e1 : cq_L_310.2.2.2 = al_L_310 := by dsimp only [cq_L_310]
  have e2 : cq_L_310.2.2.1 = mu_L_310 := by dsimp only [cq_L_310]
  have e3 : cq_L_310.1 = 1420 := by dsimp only [cq_L_310]
  rw [e1, e2, e3]
  exact rf_pcs (l := al_L_310) 0 ck_L_c_310 (List.isEmpty_iff.mp ck_L_n_310)
theorem ck_L_d_311 : ∀ alt ∈ cq_L_311.2.2.2, rf_run nm_cl nm_ct en_xs 8 xx_L kc_L cu_L po_L (some .boolean) 1 0 98 16364 (some cq_L_311.2.2.1) 5000 true cq_L_311.1 alt = true := by
  have e1 : cq_L_311.2.2.2 = al_L_311 := by dsimp only [cq_L_311]
  have e2 : cq_L_311.2.2.1 = mu_L_311 := by dsimp only [cq_L_311]
  have e3 : cq_L_311.1 = 1420 := by dsimp only [cq_L_311]
  rw [e1, e2, e3]
  exact rf_pcs (l := al_L_311) 0 ck_L_c_311 (List.isEmpty_iff.mp ck_L_n_311)
theorem ck_L_d_312 : ∀ alt ∈ cq_L_312.2.2.2, rf_run nm_cl nm_ct en_xs 8 xx_L kc_L cu_L po_L (some .boolean) 1 0 98 16364 (some cq_L_312.2.2.1) 5000 true cq_L_312.1 alt = true := by
  have e1 : cq_L_312.2.2.2 = al_L_312 := by dsimp only [cq_L_312]
  have e2 : cq_L_312.2.2.1 = mu_L_312 := by dsimp only [cq_L_312]
  have e3 : cq_L_312.1 = 1420 := by dsimp only [cq_L_312]
  rw [e1, e2, e3]
  exact rf_pcs (l := al_L_312) 0 ck_L_c_312 (List.isEmpty_iff.mp ck_L_n_312)
theorem ck_L_d_313 : ∀ alt ∈ cq_L_313.2.2.2, rf_run nm_cl nm_ct en_xs 8 xx_L kc_L cu_L po_L (some .boolean) 1 0 98 16364 (some cq_L_313.2.2.1) 5000 true cq_L_313.1 alt = true := by
  have e1 : cq_L_313.2.2.2 = al_L_313 := by dsimp only [cq_L_313]
  have e2 : cq_L_313.2.2.1 = mu_L_313 := by dsimp only [cq_L_313]
  have e3 : cq_L_313.1 = 1420 := by dsimp only [cq_L_313]
  rw [e1, e2, e3]
  exact rf_pcs (l := al_L_313) 1 ck_L_c_313 (List.isEmpty_iff.mp ck_L_n_313)
theorem ck_L_d_314 : ∀ alt ∈ cq_L_314.2.2.2, rf_run nm_cl nm_ct en_xs 8 xx_L kc_L cu_L po_L (some .boolean) 1 0 98 16364 (some cq_L_314.2.2.1) 5000 true cq_L_314.1 alt = true := by
  have e1 : cq_L_314.2.2.2 = al_L_314 := by dsimp only [cq_L_314]
  have e2 : cq_L_314.2.2.1 = mu_L_314 := by dsimp only [cq_L_314]
  have e3 : cq_L_314.1 = 1420 := by dsimp only [cq_L_314]
  rw [e1, e2, e3]
  exact rf_pcs (l := al_L_314) 0 ck_L_c_314 (List.isEmpty_iff.mp ck_L_n_314)
theorem ck_L_d_315 : ∀ alt ∈ cq_L_315.2.2.2, rf_run nm_cl nm_ct en_xs 8 xx_L kc_L cu_L po_L (some .boolean) 1 0 98 16364 (some cq_L_315.2.2.1) 5000 true cq_L_315.1 alt = true := by
  have e1 : cq_L_315.2.2.2 = al_L_315 := by dsimp only [cq_L_315]
  have e2 : cq_L_315.2.2.1 = mu_L_315 := by dsimp only [cq_L_315]
  have e3 : cq_L_315.1 = 1420 := by dsimp only [cq_L_315]
  rw [e1, e2, e3]
  exact rf_pcs (l := al_L_315) 0 ck_L_c_315 (List.isEmpty_iff.mp ck_L_n_315)
theorem ck_L_d_316 : ∀ alt ∈ cq_L_316.2.2.2, rf_run nm_cl nm_ct en_xs 8 xx_L kc_L cu_L po_L (some .boolean) 1 0 98 16364 (some cq_L_316.2.2.1) 5000 true cq_L_316.1 alt = true := by
  have e1 : cq_L_316.2.2.2 = al_L_316 := by dsimp only [cq_L_316]
  have e2 : cq_L_316.2.2.1 = mu_L_316 := by dsimp only [cq_L_316]
  have e3 : cq_L_316.1 = 1420 := by dsimp only [cq_L_316]
  rw [e1, e2, e3]
  exact rf_pcs (l := al_L_316) 0 ck_L_c_316 (List.isEmpty_iff.mp ck_L_n_316)
theorem ck_L_d_317 : ∀ alt ∈ cq_L_317.2.2.2, rf_run nm_cl nm_ct en_xs 8 xx_L kc_L cu_L po_L (some .boolean) 1 0 98 16364 (some cq_L_317.2.2.1) 5000 true cq_L_317.1 alt = true := by
  have e1 : cq_L_317.2.2.2 = al_L_317 := by dsimp only [cq_L_317]
  have e2 : cq_L_317.2.2.1 = mu_L_317 := by dsimp only [cq_L_317]
  have e3 : cq_L_317.1 = 1420 := by dsimp only [cq_L_317]
  rw [e1, e2, e3]
  exact rf_pcs (l := al_L_317) 0 ck_L_c_317 (List.isEmpty_iff.mp ck_L_n_317)
theorem ck_L_d_318 : ∀ alt ∈ cq_L_318.2.2.2, rf_run nm_cl nm_ct en_xs 8 xx_L kc_L cu_L po_L (some .boolean) 1 0 98 16364 (some cq_L_318.2.2.1) 5000 true cq_L_318.1 alt = true := by
  have e1 : cq_L_318.2.2.2 = al_L_318 := by dsimp only [cq_L_318]
  have e2 : cq_L_318.2.2.1 = mu_L_318 := by dsimp only [cq_L_318]
  have e3 : cq_L_318.1 = 1420 := by dsimp only [cq_L_318]
  rw [e1, e2, e3]
  exact rf_pcs (l := al_L_318) 0 ck_L_c_318 (List.isEmpty_iff.mp ck_L_n_318)
theorem ck_L_d_319 : ∀ alt ∈ cq_L_319.2.2.2, rf_run nm_cl nm_ct en_xs 8 xx_L kc_L cu_L po_L (some .boolean) 1 0 98 16364 (some cq_L_319.2.2.1) 5000 true cq_L_319.1 alt = true := by
  have e1 : cq_L_319.2.2.2 = al_L_319 := by dsimp only [cq_L_319]
  have e2 : cq_L_319.2.2.1 = mu_L_319 := by dsimp only [cq_L_319]
  have e3 : cq_L_319.1 = 1420 := by dsimp only [cq_L_319]
  rw [e1, e2, e3]
  exact rf_pcs (l := al_L_319) 0 ck_L_c_319 (List.isEmpty_iff.mp ck_L_n_319)
theorem ck_L_d_320 : ∀ alt ∈ cq_L_320.2.2.2, rf_run nm_cl nm_ct en_xs 8 xx_L kc_L cu_L po_L (some .boolean) 1 0 98 16364 (some cq_L_320.2.2.1) 5000 true cq_L_320.1 alt = true := by
  have e1 : cq_L_320.2.2.2 = al_L_320 := by dsimp only [cq_L_320]
  have e2 : cq_L_320.2.2.1 = mu_L_320 := by dsimp only [cq_L_320]
  have e3 : cq_L_320.1 = 1420 := by dsimp only [cq_L_320]
  rw [e1, e2, e3]
  exact rf_pcs (l := al_L_320) 0 ck_L_c_320 (List.isEmpty_iff.mp ck_L_n_320)
theorem ck_L_d_321 : ∀ alt ∈ cq_L_321.2.2.2, rf_run nm_cl nm_ct en_xs 8 xx_L kc_L cu_L po_L (some .boolean) 1 0 98 16364 (some cq_L_321.2.2.1) 5000 true cq_L_321.1 alt = true := by
  have e1 : cq_L_321.2.2.2 = al_L_321 := by dsimp only [cq_L_321]
  have e2 : cq_L_321.2.2.1 = mu_L_321 := by dsimp only [cq_L_321]
  have e3 : cq_L_321.1 = 1425 := by dsimp only [cq_L_321]
  rw [e1, e2, e3]
  exact rf_pcs (l := al_L_321) 1 ck_L_c_321 (List.isEmpty_iff.mp ck_L_n_321)
theorem ck_L_d_322 : ∀ alt ∈ cq_L_322.2.2.2, rf_run nm_cl nm_ct en_xs 8 xx_L kc_L cu_L po_L (some .boolean) 1 0 98 16364 (some cq_L_322.2.2.1) 5000 true cq_L_322.1 alt = true := by
  have e1 : cq_L_322.2.2.2 = al_L_322 := by dsimp only [cq_L_322]
  have e2 : cq_L_322.2.2.1 = mu_L_322 := by dsimp only [cq_L_322]
  have e3 : cq_L_322.1 = 1458 := by dsimp only [cq_L_322]
  rw [e1, e2, e3]
  exact rf_pcs (l := al_L_322) 1 ck_L_c_322 (List.isEmpty_iff.mp ck_L_n_322)
set_option maxRecDepth 100000 in
theorem ck_L_b : ∀ cu ∈ cu_L, Nat.beq cu.2.2.1.length 4 = true ∧ ∀ alt ∈ cu.2.2.2, rf_run nm_cl nm_ct en_xs 8 xx_L kc_L cu_L po_L (some .boolean) 1 0 98 16364 (some cu.2.2.1) 5000 true cu.1 alt = true := List.forall_mem_cons.mpr ⟨⟨rfl, ck_L_d_0⟩, List.forall_mem_cons.mpr ⟨⟨rfl, ck_L_d_1⟩, List.forall_mem_cons.mpr ⟨⟨rfl, ck_L_d_2⟩, List.forall_mem_cons.mpr ⟨⟨rfl, ck_L_d_3⟩, List.forall_mem_cons.mpr ⟨⟨rfl, ck_L_d_4⟩, List.forall_mem_cons.mpr ⟨⟨rfl, ck_L_d_5⟩, List.forall_mem_cons.mpr ⟨⟨rfl, ck_L_d_6⟩, List.forall_mem_cons.mpr ⟨⟨rfl, ck_L_d_7⟩, List.forall_mem_cons.mpr ⟨⟨rfl, ck_L_d_8⟩, List.forall_mem_cons.mpr ⟨⟨rfl, ck_L_d_9⟩, List.forall_mem_cons.mpr ⟨⟨rfl, ck_L_d_10⟩, List.forall_mem_cons.mpr ⟨⟨rfl, ck_L_d_11⟩, List.forall_mem_cons.mpr ⟨⟨rfl, ck_L_d_12⟩, List.forall_mem_cons.mpr ⟨⟨rfl, ck_L_d_13⟩, List.forall_mem_cons.mpr ⟨⟨rfl, ck_L_d_14⟩, List.forall_mem_cons.mpr ⟨⟨rfl, ck_L_d_15⟩, List.forall_mem_cons.mpr ⟨⟨rfl, ck_L_d_16⟩, List.forall_mem_cons.mpr ⟨⟨rfl, ck_L_d_17⟩, List.forall_mem_cons.mpr ⟨⟨rfl, ck_L_d_18⟩, List.forall_mem_cons.mpr ⟨⟨rfl, ck_L_d_19⟩, List.forall_mem_cons.mpr ⟨⟨rfl, ck_L_d_20⟩, List.forall_mem_cons.mpr ⟨⟨rfl, ck_L_d_21⟩, List.forall_mem_cons.mpr ⟨⟨rfl, ck_L_d_22⟩, List.forall_mem_cons.mpr ⟨⟨rfl, ck_L_d_23⟩, List.forall_mem_cons.mpr ⟨⟨rfl, ck_L_d_24⟩, List.forall_mem_cons.mpr ⟨⟨rfl, ck_L_d_25⟩, List.forall_mem_cons.mpr ⟨⟨rfl, ck_L_d_26⟩, List.forall_mem_cons.mpr ⟨⟨rfl, ck_L_d_27⟩, List.forall_mem_cons.mpr ⟨⟨rfl, ck_L_d_28⟩, List.forall_mem_cons.mpr ⟨⟨rfl, ck_L_d_29⟩, List.forall_mem_cons.mpr ⟨⟨rfl, ck_L_d_30⟩, List.forall_mem_cons.mpr ⟨⟨rfl, ck_L_d_31⟩, List.forall_mem_cons.mpr ⟨⟨rfl, ck_L_d_32⟩, List.forall_mem_cons.mpr ⟨⟨rfl, ck_L_d_33⟩, List.forall_mem_cons.mpr ⟨⟨rfl, ck_L_d_34⟩, List.forall_mem_cons.mpr ⟨⟨rfl, ck_L_d_35⟩, List.forall_mem_cons.mpr ⟨⟨rfl, ck_L_d_36⟩, List.forall_mem_cons.mpr ⟨⟨rfl, ck_L_d_37⟩, List.forall_mem_cons.mpr ⟨⟨rfl, ck_L_d_38⟩, List.forall_mem_cons.mpr ⟨⟨rfl, ck_L_d_39⟩, List.forall_mem_cons.mpr ⟨⟨rfl, ck_L_d_40⟩, List.forall_mem_cons.mpr ⟨⟨rfl, ck_L_d_41⟩, List.forall_mem_cons.mpr ⟨⟨rfl, ck_L_d_42⟩, List.forall_mem_cons.mpr ⟨⟨rfl, ck_L_d_43⟩, List.forall_mem_cons.mpr ⟨⟨rfl, ck_L_d_44⟩, List.forall_mem_cons.mpr ⟨⟨rfl, ck_L_d_45⟩, List.forall_mem_cons.mpr ⟨⟨rfl, ck_L_d_46⟩, List.forall_mem_cons.mpr ⟨⟨rfl, ck_L_d_47⟩, List.forall_mem_cons.mpr ⟨⟨rfl, ck_L_d_48⟩, List.forall_mem_cons.mpr ⟨⟨rfl, ck_L_d_49⟩, List.forall_mem_cons.mpr ⟨⟨rfl, ck_L_d_50⟩, List.forall_mem_cons.mpr ⟨⟨rfl, ck_L_d_51⟩, List.forall_mem_cons.mpr ⟨⟨rfl, ck_L_d_52⟩, List.forall_mem_cons.mpr ⟨⟨rfl, ck_L_d_53⟩, List.forall_mem_cons.mpr ⟨⟨rfl, ck_L_d_54⟩, List.forall_mem_cons.mpr ⟨⟨rfl, ck_L_d_55⟩, List.forall_mem_cons.mpr ⟨⟨rfl, ck_L_d_56⟩, List.forall_mem_cons.mpr ⟨⟨rfl, ck_L_d_57⟩, List.forall_mem_cons.mpr ⟨⟨rfl, ck_L_d_58⟩, List.forall_mem_cons.mpr ⟨⟨rfl, ck_L_d_59⟩, List.forall_mem_cons.mpr ⟨⟨rfl, ck_L_d_60⟩, List.forall_mem_cons.mpr ⟨⟨rfl, ck_L_d_61⟩, List.forall_mem_cons.mpr ⟨⟨rfl, ck_L_d_62⟩, List.forall_mem_cons.mpr ⟨⟨rfl, ck_L_d_63⟩, List.forall_mem_cons.mpr ⟨⟨rfl, ck_L_d_64⟩, List.forall_mem_cons.mpr ⟨⟨rfl, ck_L_d_65⟩, List.forall_mem_cons.mpr ⟨⟨rfl, ck_L_d_66⟩, List.forall_mem_cons.mpr ⟨⟨rfl, ck_L_d_67⟩, List.forall_mem_cons.mpr ⟨⟨rfl, ck_L_d_68⟩, List.forall_mem_cons.mpr ⟨⟨rfl, ck_L_d_69⟩, List.forall_mem_cons.mpr ⟨⟨rfl, ck_L_d_70⟩, List.forall_mem_cons.mpr ⟨⟨rfl, ck_L_d_71⟩, List.forall_mem_cons.mpr ⟨⟨rfl, ck_L_d_72⟩, List.forall_mem_cons.mpr ⟨⟨rfl, ck_L_d_73⟩, List.forall_mem_cons.mpr ⟨⟨rfl, ck_L_d_74⟩, List.forall_mem_cons.mpr ⟨⟨rfl, ck_L_d_75⟩, List.forall_mem_cons.mpr ⟨⟨rfl, ck_L_d_76⟩, List.forall_mem_cons.mpr ⟨⟨rfl, ck_L_d_77⟩, List.forall_mem_cons.mpr ⟨⟨rfl, ck_L_d_78⟩, List.forall_mem_cons.mpr ⟨⟨rfl, ck_L_d_79⟩, List.forall_mem_cons.mpr ⟨⟨rfl, ck_L_d_80⟩, List.forall_mem_cons.mpr ⟨⟨rfl, ck_L_d_81⟩, List.forall_mem_cons.mpr ⟨⟨rfl, ck_L_d_82⟩, List.forall_mem_cons.mpr ⟨⟨rfl, ck_L_d_83⟩, List.forall_mem_cons.mpr ⟨⟨rfl, ck_L_d_84⟩, List.forall_mem_cons.mpr ⟨⟨rfl, ck_L_d_85⟩, List.forall_mem_cons.mpr ⟨⟨rfl, ck_L_d_86⟩, List.forall_mem_cons.mpr ⟨⟨rfl, ck_L_d_87⟩, List.forall_mem_cons.mpr ⟨⟨rfl, ck_L_d_88⟩, List.forall_mem_cons.mpr ⟨⟨rfl, ck_L_d_89⟩, List.forall_mem_cons.mpr ⟨⟨rfl, ck_L_d_90⟩, List.forall_mem_cons.mpr ⟨⟨rfl, ck_L_d_91⟩, List.forall_mem_cons.mpr ⟨⟨rfl, ck_L_d_92⟩, List.forall_mem_cons.mpr ⟨⟨rfl, ck_L_d_93⟩, List.forall_mem_cons.mpr ⟨⟨rfl, ck_L_d_94⟩, List.forall_mem_cons.mpr ⟨⟨rfl, ck_L_d_95⟩, List.forall_mem_cons.mpr ⟨⟨rfl, ck_L_d_96⟩, List.forall_mem_cons.mpr ⟨⟨rfl, ck_L_d_97⟩, List.forall_mem_cons.mpr ⟨⟨rfl, ck_L_d_98⟩, List.forall_mem_cons.mpr ⟨⟨rfl, ck_L_d_99⟩, List.forall_mem_cons.mpr ⟨⟨rfl, ck_L_d_100⟩, List.forall_mem_cons.mpr ⟨⟨rfl, ck_L_d_101⟩, List.forall_mem_cons.mpr ⟨⟨rfl, ck_L_d_102⟩, List.forall_mem_cons.mpr ⟨⟨rfl, ck_L_d_103⟩, List.forall_mem_cons.mpr ⟨⟨rfl, ck_L_d_104⟩, List.forall_mem_cons.mpr ⟨⟨rfl, ck_L_d_105⟩, List.forall_mem_cons.mpr ⟨⟨rfl, ck_L_d_106⟩, List.forall_mem_cons.mpr ⟨⟨rfl, ck_L_d_107⟩, List.forall_mem_cons.mpr ⟨⟨rfl, ck_L_d_108⟩, List.forall_mem_cons.mpr ⟨⟨rfl, ck_L_d_109⟩, List.forall_mem_cons.mpr ⟨⟨rfl, ck_L_d_110⟩, List.forall_mem_cons.mpr ⟨⟨rfl, ck_L_d_111⟩, List.forall_mem_cons.mpr ⟨⟨rfl, ck_L_d_112⟩, List.forall_mem_cons.mpr ⟨⟨rfl, ck_L_d_113⟩, List.forall_mem_cons.mpr ⟨⟨rfl, ck_L_d_114⟩, List.forall_mem_cons.mpr ⟨⟨rfl, ck_L_d_115⟩, List.forall_mem_cons.mpr ⟨⟨rfl, ck_L_d_116⟩, List.forall_mem_cons.mpr ⟨⟨rfl, ck_L_d_117⟩, List.forall_mem_cons.mpr ⟨⟨rfl, ck_L_d_118⟩, List.forall_mem_cons.mpr ⟨⟨rfl, ck_L_d_119⟩, List.forall_mem_cons.mpr ⟨⟨rfl, ck_L_d_120⟩, List.forall_mem_cons.mpr ⟨⟨rfl, ck_L_d_121⟩, List.forall_mem_cons.mpr ⟨⟨rfl, ck_L_d_122⟩, List.forall_mem_cons.mpr ⟨⟨rfl, ck_L_d_123⟩, List.forall_mem_cons.mpr ⟨⟨rfl, ck_L_d_124⟩, List.forall_mem_cons.mpr ⟨⟨rfl, ck_L_d_125⟩, List.forall_mem_cons.mpr ⟨⟨rfl, ck_L_d_126⟩, List.forall_mem_cons.mpr ⟨⟨rfl, ck_L_d_127⟩, List.forall_mem_cons.mpr ⟨⟨rfl, ck_L_d_128⟩, List.forall_mem_cons.mpr ⟨⟨rfl, ck_L_d_129⟩, List.forall_mem_cons.mpr ⟨⟨rfl, ck_L_d_130⟩, List.forall_mem_cons.mpr ⟨⟨rfl, ck_L_d_131⟩, List.forall_mem_cons.mpr ⟨⟨rfl, ck_L_d_132⟩, List.forall_mem_cons.mpr ⟨⟨rfl, ck_L_d_133⟩, List.forall_mem_cons.mpr ⟨⟨rfl, ck_L_d_134⟩, List.forall_mem_cons.mpr ⟨⟨rfl, ck_L_d_135⟩, List.forall_mem_cons.mpr ⟨⟨rfl, ck_L_d_136⟩, List.forall_mem_cons.mpr ⟨⟨rfl, ck_L_d_137⟩, List.forall_mem_cons.mpr ⟨⟨rfl, ck_L_d_138⟩, List.forall_mem_cons.mpr ⟨⟨rfl, ck_L_d_139⟩, List.forall_mem_cons.mpr ⟨⟨rfl, ck_L_d_140⟩, List.forall_mem_cons.mpr ⟨⟨rfl, ck_L_d_141⟩, List.forall_mem_cons.mpr ⟨⟨rfl, ck_L_d_142⟩, List.forall_mem_cons.mpr ⟨⟨rfl, ck_L_d_143⟩, List.forall_mem_cons.mpr ⟨⟨rfl, ck_L_d_144⟩, List.forall_mem_cons.mpr ⟨⟨rfl, ck_L_d_145⟩, List.forall_mem_cons.mpr ⟨⟨rfl, ck_L_d_146⟩, List.forall_mem_cons.mpr ⟨⟨rfl, ck_L_d_147⟩, List.forall_mem_cons.mpr ⟨⟨rfl, ck_L_d_148⟩, List.forall_mem_cons.mpr ⟨⟨rfl, ck_L_d_149⟩, List.forall_mem_cons.mpr ⟨⟨rfl, ck_L_d_150⟩, List.forall_mem_cons.mpr ⟨⟨rfl, ck_L_d_151⟩, List.forall_mem_cons.mpr ⟨⟨rfl, ck_L_d_152⟩, List.forall_mem_cons.mpr ⟨⟨rfl, ck_L_d_153⟩, List.forall_mem_cons.mpr ⟨⟨rfl, ck_L_d_154⟩, List.forall_mem_cons.mpr ⟨⟨rfl, ck_L_d_155⟩, List.forall_mem_cons.mpr ⟨⟨rfl, ck_L_d_156⟩, List.forall_mem_cons.mpr ⟨⟨rfl, ck_L_d_157⟩, List.forall_mem_cons.mpr ⟨⟨rfl, ck_L_d_158⟩, List.forall_mem_cons.mpr ⟨⟨rfl, ck_L_d_159⟩, List.forall_mem_cons.mpr ⟨⟨rfl, ck_L_d_160⟩, List.forall_mem_cons.mpr ⟨⟨rfl, ck_L_d_161⟩, List.forall_mem_cons.mpr ⟨⟨rfl, ck_L_d_162⟩, List.forall_mem_cons.mpr ⟨⟨rfl, ck_L_d_163⟩, List.forall_mem_cons.mpr ⟨⟨rfl, ck_L_d_164⟩, List.forall_mem_cons.mpr ⟨⟨rfl, ck_L_d_165⟩, List.forall_mem_cons.mpr ⟨⟨rfl, ck_L_d_166⟩, List.forall_mem_cons.mpr ⟨⟨rfl, ck_L_d_167⟩, List.forall_mem_cons.mpr ⟨⟨rfl, ck_L_d_168⟩, List.forall_mem_cons.mpr ⟨⟨rfl, ck_L_d_169⟩, List.forall_mem_cons.mpr ⟨⟨rfl, ck_L_d_170⟩, List.forall_mem_cons.mpr ⟨⟨rfl, ck_L_d_171⟩, List.forall_mem_cons.mpr ⟨⟨rfl, ck_L_d_172⟩, List.forall_mem_cons.mpr ⟨⟨rfl, ck_L_d_173⟩, List.forall_mem_cons.mpr ⟨⟨rfl, ck_L_d_174⟩, List.forall_mem_cons.mpr ⟨⟨rfl, ck_L_d_175⟩, List.forall_mem_cons.mpr ⟨⟨rfl, ck_L_d_176⟩, List.forall_mem_cons.mpr ⟨⟨rfl, ck_L_d_177⟩, List.forall_mem_cons.mpr ⟨⟨rfl, ck_L_d_178⟩, List.forall_mem_cons.mpr ⟨⟨rfl, ck_L_d_179⟩, List.forall_mem_cons.mpr ⟨⟨rfl, ck_L_d_180⟩, List.forall_mem_cons.mpr ⟨⟨rfl, ck_L_d_181⟩, List.forall_mem_cons.mpr ⟨⟨rfl, ck_L_d_182⟩, List.forall_mem_cons.mpr ⟨⟨rfl, ck_L_d_183⟩, List.forall_mem_cons.mpr ⟨⟨rfl, ck_L_d_184⟩, List.forall_mem_cons.mpr ⟨⟨rfl, ck_L_d_185⟩, List.forall_mem_cons.mpr ⟨⟨rfl, ck_L_d_186⟩, List.forall_mem_cons.mpr ⟨⟨rfl, ck_L_d_187⟩, List.forall_mem_cons.mpr ⟨⟨rfl, ck_L_d_188⟩, List.forall_mem_cons.mpr ⟨⟨rfl, ck_L_d_189⟩, List.forall_mem_cons.mpr ⟨⟨rfl, ck_L_d_190⟩, List.forall_mem_cons.mpr ⟨⟨rfl, ck_L_d_191⟩, List.forall_mem_cons.mpr ⟨⟨rfl, ck_L_d_192⟩, List.forall_mem_cons.mpr ⟨⟨rfl, ck_L_d_193⟩, List.forall_mem_cons.mpr ⟨⟨rfl, ck_L_d_194⟩, List.forall_mem_cons.mpr ⟨⟨rfl, ck_L_d_195⟩, List.forall_mem_cons.mpr ⟨⟨rfl, ck_L_d_196⟩, List.forall_mem_cons.mpr ⟨⟨rfl, ck_L_d_197⟩, List.forall_mem_cons.mpr ⟨⟨rfl, ck_L_d_198⟩, List.forall_mem_cons.mpr ⟨⟨rfl, ck_L_d_199⟩, List.forall_mem_cons.mpr ⟨⟨rfl, ck_L_d_200⟩, List.forall_mem_cons.mpr ⟨⟨rfl, ck_L_d_201⟩, List.forall_mem_cons.mpr ⟨⟨rfl, ck_L_d_202⟩, List.forall_mem_cons.mpr ⟨⟨rfl, ck_L_d_203⟩, List.forall_mem_cons.mpr ⟨⟨rfl, ck_L_d_204⟩, List.forall_mem_cons.mpr ⟨⟨rfl, ck_L_d_205⟩, List.forall_mem_cons.mpr ⟨⟨rfl, ck_L_d_206⟩, List.forall_mem_cons.mpr ⟨⟨rfl, ck_L_d_207⟩, List.forall_mem_cons.mpr ⟨⟨rfl, ck_L_d_208⟩, List.forall_mem_cons.mpr ⟨⟨rfl, ck_L_d_209⟩, List.forall_mem_cons.mpr ⟨⟨rfl, ck_L_d_210⟩, List.forall_mem_cons.mpr ⟨⟨rfl, ck_L_d_211⟩, List.forall_mem_cons.mpr ⟨⟨rfl, ck_L_d_212⟩, List.forall_mem_cons.mpr ⟨⟨rfl, ck_L_d_213⟩, List.forall_mem_cons.mpr ⟨⟨rfl, ck_L_d_214⟩, List.forall_mem_cons.mpr ⟨⟨rfl, ck_L_d_215⟩, List.forall_mem_cons.mpr ⟨⟨rfl, ck_L_d_216⟩, List.forall_mem_cons.mpr ⟨⟨rfl, ck_L_d_217⟩, List.forall_mem_cons.mpr ⟨⟨rfl, ck_L_d_218⟩, List.forall_mem_cons.mpr ⟨⟨rfl, ck_L_d_219⟩, List.forall_mem_cons.mpr ⟨⟨rfl, ck_L_d_220⟩, List.forall_mem_cons.mpr ⟨⟨rfl, ck_L_d_221⟩, List.forall_mem_cons.mpr ⟨⟨rfl, ck_L_d_222⟩, List.forall_mem_cons.mpr ⟨⟨rfl, ck_L_d_223⟩, List.forall_mem_cons.mpr ⟨⟨rfl, ck_L_d_224⟩, List.forall_mem_cons.mpr ⟨⟨rfl, ck_L_d_225⟩, List.forall_mem_cons.mpr ⟨⟨rfl, ck_L_d_226⟩, List.forall_mem_cons.mpr ⟨⟨rfl, ck_L_d_227⟩, List.forall_mem_cons.mpr ⟨⟨rfl, ck_L_d_228⟩, List.forall_mem_cons.mpr ⟨⟨rfl, ck_L_d_229⟩, List.forall_mem_cons.mpr ⟨⟨rfl, ck_L_d_230⟩, List.forall_mem_cons.mpr ⟨⟨rfl, ck_L_d_231⟩, List.forall_mem_cons.mpr ⟨⟨rfl, ck_L_d_232⟩, List.forall_mem_cons.mpr ⟨⟨rfl, ck_L_d_233⟩, List.forall_mem_cons.mpr ⟨⟨rfl, ck_L_d_234⟩, List.forall_mem_cons.mpr ⟨⟨rfl, ck_L_d_235⟩, List.forall_mem_cons.mpr ⟨⟨rfl, ck_L_d_236⟩, List.forall_mem_cons.mpr ⟨⟨rfl, ck_L_d_237⟩, List.forall_mem_cons.mpr ⟨⟨rfl, ck_L_d_238⟩, List.forall_mem_cons.mpr ⟨⟨rfl, ck_L_d_239⟩, List.forall_mem_cons.mpr ⟨⟨rfl, ck_L_d_240⟩, List.forall_mem_cons.mpr ⟨⟨rfl, ck_L_d_241⟩, List.forall_mem_cons.mpr ⟨⟨rfl, ck_L_d_242⟩, List.forall_mem_cons.mpr ⟨⟨rfl, ck_L_d_243⟩, List.forall_mem_cons.mpr ⟨⟨rfl, ck_L_d_244⟩, List.forall_mem_cons.mpr ⟨⟨rfl, ck_L_d_245⟩, List.forall_mem_cons.mpr ⟨⟨rfl, ck_L_d_246⟩, List.forall_mem_cons.mpr ⟨⟨rfl, ck_L_d_247⟩, List.forall_mem_cons.mpr ⟨⟨rfl, ck_L_d_248⟩, List.forall_mem_cons.mpr ⟨⟨rfl, ck_L_d_249⟩, List.forall_mem_cons.mpr ⟨⟨rfl, ck_L_d_250⟩, List.forall_mem_cons.mpr ⟨⟨rfl, ck_L_d_251⟩, List.forall_mem_cons.mpr ⟨⟨rfl, ck_L_d_252⟩, List.forall_mem_cons.mpr ⟨⟨rfl, ck_L_d_253⟩, List.forall_mem_cons.mpr ⟨⟨rfl, ck_L_d_254⟩, List.forall_mem_cons.mpr ⟨⟨rfl, ck_L_d_255⟩, List.forall_mem_cons.mpr ⟨⟨rfl, ck_L_d_256⟩, List.forall_mem_cons.mpr ⟨⟨rfl, ck_L_d_257⟩, List.forall_mem_cons.mpr ⟨⟨rfl, ck_L_d_258⟩, List.forall_mem_cons.mpr ⟨⟨rfl, ck_L_d_259⟩, List.forall_mem_cons.mpr ⟨⟨rfl, ck_L_d_260⟩, List.forall_mem_cons.mpr ⟨⟨rfl, ck_L_d_261⟩, List.forall_mem_cons.mpr ⟨⟨rfl, ck_L_d_262⟩, List.forall_mem_cons.mpr ⟨⟨rfl, ck_L_d_263⟩, List.forall_mem_cons.mpr ⟨⟨rfl, ck_L_d_264⟩, List.forall_mem_cons.mpr ⟨⟨rfl, ck_L_d_265⟩, List.forall_mem_cons.mpr ⟨⟨rfl, ck_L_d_266⟩, List.forall_mem_cons.mpr ⟨⟨rfl, ck_L_d_267⟩, List.forall_mem_cons.mpr ⟨⟨rfl, ck_L_d_268⟩, List.forall_mem_cons.mpr ⟨⟨rfl, ck_L_d_269⟩, List.forall_mem_cons.mpr ⟨⟨rfl, ck_L_d_270⟩, List.forall_mem_cons.mpr ⟨⟨rfl, ck_L_d_271⟩, List.forall_mem_cons.mpr ⟨⟨rfl, ck_L_d_272⟩, List.forall_mem_cons.mpr ⟨⟨rfl, ck_L_d_273⟩, List.forall_mem_cons.mpr ⟨⟨rfl, ck_L_d_274⟩, List.forall_mem_cons.mpr ⟨⟨rfl, ck_L_d_275⟩, List.forall_mem_cons.mpr ⟨⟨rfl, ck_L_d_276⟩, List.forall_mem_cons.mpr ⟨⟨rfl, ck_L_d_277⟩, List.forall_mem_cons.mpr ⟨⟨rfl, ck_L_d_278⟩, List.forall_mem_cons.mpr ⟨⟨rfl, ck_L_d_279⟩, List.forall_mem_cons.mpr ⟨⟨rfl, ck_L_d_280⟩, List.forall_mem_cons.mpr ⟨⟨rfl, ck_L_d_281⟩, List.forall_mem_cons.mpr ⟨⟨rfl, ck_L_d_282⟩, List.forall_mem_cons.mpr ⟨⟨rfl, ck_L_d_283⟩, List.forall_mem_cons.mpr ⟨⟨rfl, ck_L_d_284⟩, List.forall_mem_cons.mpr ⟨⟨rfl, ck_L_d_285⟩, List.forall_mem_cons.mpr ⟨⟨rfl, ck_L_d_286⟩, List.forall_mem_cons.mpr ⟨⟨rfl, ck_L_d_287⟩, List.forall_mem_cons.mpr ⟨⟨rfl, ck_L_d_288⟩, List.forall_mem_cons.mpr ⟨⟨rfl, ck_L_d_289⟩, List.forall_mem_cons.mpr ⟨⟨rfl, ck_L_d_290⟩, List.forall_mem_cons.mpr ⟨⟨rfl, ck_L_d_291⟩, List.forall_mem_cons.mpr ⟨⟨rfl, ck_L_d_292⟩, List.forall_mem_cons.mpr ⟨⟨rfl, ck_L_d_293⟩, List.forall_mem_cons.mpr ⟨⟨rfl, ck_L_d_294⟩, List.forall_mem_cons.mpr ⟨⟨rfl, ck_L_d_295⟩, List.forall_mem_cons.mpr ⟨⟨rfl, ck_L_d_296⟩, List.forall_mem_cons.mpr ⟨⟨rfl, ck_L_d_297⟩, List.forall_mem_cons.mpr ⟨⟨rfl, ck_L_d_298⟩, List.forall_mem_cons.mpr ⟨⟨rfl, ck_L_d_299⟩, List.forall_mem_cons.mpr ⟨⟨rfl, ck_L_d_300⟩, List.forall_mem_cons.mpr ⟨⟨rfl, ck_L_d_301⟩, List.forall_mem_cons.mpr ⟨⟨rfl, ck_L_d_302⟩, List.forall_mem_cons.mpr ⟨⟨rfl, ck_L_d_303⟩, List.forall_mem_cons.mpr ⟨⟨rfl, ck_L_d_304⟩, List.forall_mem_cons.mpr ⟨⟨rfl, ck_L_d_305⟩, List.forall_mem_cons.mpr ⟨⟨rfl, ck_L_d_306⟩, List.forall_mem_cons.mpr ⟨⟨rfl, ck_L_d_307⟩, List.forall_mem_cons.mpr ⟨⟨rfl, ck_L_d_308⟩, List.forall_mem_cons.mpr ⟨⟨rfl, ck_L_d_309⟩, List.forall_mem_cons.mpr ⟨⟨rfl, ck_L_d_310⟩, List.forall_mem_cons.mpr ⟨⟨rfl, ck_L_d_311⟩, List.forall_mem_cons.mpr ⟨⟨rfl, ck_L_d_312⟩, List.forall_mem_cons.mpr ⟨⟨rfl, ck_L_d_313⟩, List.forall_mem_cons.mpr ⟨⟨rfl, ck_L_d_314⟩, List.forall_mem_cons.mpr ⟨⟨rfl, ck_L_d_315⟩, List.forall_mem_cons.mpr ⟨⟨rfl, ck_L_d_316⟩, List.forall_mem_cons.mpr ⟨⟨rfl, ck_L_d_317⟩, List.forall_mem_cons.mpr ⟨⟨rfl, ck_L_d_318⟩, List.forall_mem_cons.mpr ⟨⟨rfl, ck_L_d_319⟩, List.forall_mem_cons.mpr ⟨⟨rfl, ck_L_d_320⟩, List.forall_mem_cons.mpr ⟨⟨rfl, ck_L_d_321⟩, List.forall_mem_cons.mpr ⟨⟨rfl, ck_L_d_322⟩, (fun _ h => absurd h List.not_mem_nil)⟩⟩⟩⟩⟩⟩⟩⟩⟩⟩⟩⟩⟩⟩⟩⟩⟩⟩⟩⟩⟩⟩⟩⟩⟩⟩⟩⟩⟩⟩⟩⟩⟩⟩⟩⟩⟩⟩⟩⟩⟩⟩⟩⟩⟩⟩⟩⟩⟩⟩⟩⟩⟩⟩⟩⟩⟩⟩⟩⟩⟩⟩⟩⟩⟩⟩⟩⟩⟩⟩⟩⟩⟩⟩⟩⟩⟩⟩⟩⟩⟩⟩⟩⟩⟩⟩⟩⟩⟩⟩⟩⟩⟩⟩⟩⟩⟩⟩⟩⟩⟩⟩⟩⟩⟩⟩⟩⟩⟩⟩⟩⟩⟩⟩⟩⟩⟩⟩⟩⟩⟩⟩⟩⟩⟩⟩⟩⟩⟩⟩⟩⟩⟩⟩⟩⟩⟩⟩⟩⟩⟩⟩⟩⟩⟩⟩⟩⟩⟩⟩⟩⟩⟩⟩⟩⟩⟩⟩⟩⟩⟩⟩⟩⟩⟩⟩⟩⟩⟩⟩⟩⟩⟩⟩⟩⟩⟩⟩⟩⟩⟩⟩⟩⟩⟩⟩⟩⟩⟩⟩⟩⟩⟩⟩⟩⟩⟩⟩⟩⟩⟩⟩⟩⟩⟩⟩⟩⟩⟩⟩⟩⟩⟩⟩⟩⟩⟩⟩⟩⟩⟩⟩⟩⟩⟩⟩⟩⟩⟩⟩⟩⟩⟩⟩⟩⟩⟩⟩⟩⟩⟩⟩⟩⟩⟩⟩⟩⟩⟩⟩⟩⟩⟩⟩⟩⟩⟩⟩⟩⟩⟩⟩⟩⟩⟩⟩⟩⟩⟩⟩⟩⟩⟩⟩⟩⟩⟩⟩⟩⟩⟩⟩⟩⟩⟩⟩⟩⟩⟩⟩⟩⟩⟩⟩⟩⟩⟩⟩⟩⟩⟩⟩⟩⟩⟩⟩⟩⟩⟩⟩⟩⟩⟩⟩⟩⟩⟩⟩⟩⟩⟩⟩⟩
set_option maxRecDepth 100000 in
theorem ln_L : rf_lens kc_L = true := by decide +kernel
