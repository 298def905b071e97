theorem wf_X0 : ∀ w ∈ u_ws RX0 TX0 6, w ∈ en_G := en_sub _ [301, 303, 305, 307, 309, 311] (by decide +kernel) (by decide +kernel)
theorem wf_X1 : ∀ w ∈ u_ws RX1 TX1 5, w ∈ en_G := en_sub _ [244, 246, 248, 250, 252] (by decide +kernel) (by decide +kernel)
theorem wf_X2 : ∀ w ∈ u_ws RX2 TX2 3, w ∈ en_G := en_sub _ [171, 173, 175] (by decide +kernel) (by decide +kernel)
theorem wf_X3 : ∀ w ∈ u_ws RX3 TX3 10, w ∈ en_G := en_sub _ [129, 131, 133, 135, 137, 139, 141, 143, 145, 147] (by decide +kernel) (by decide +kernel)
theorem wf_X4 : ∀ w ∈ u_ws RX4 TX4 4, w ∈ en_G := en_sub _ [222, 224, 226, 228] (by decide +kernel) (by decide +kernel)
theorem wf_X5 : ∀ w ∈ u_ws RX5 TX5 3, w ∈ en_G := en_sub _ [382, 384, 386] (by decide +kernel) (by decide +kernel)
theorem wf_X6 : ∀ w ∈ u_ws RX6 TX6 4, w ∈ en_G := en_sub _ [199, 201, 203, 205] (by decide +kernel) (by decide +kernel)
theorem wf_X7 : ∀ w ∈ u_ws RX7 TX7 11, w ∈ en_G := en_sub _ [407, 409, 411, 413, 415, 417, 419, 421, 423, 425, 427] (by decide +kernel) (by decide +kernel)
theorem wf_X8 : ∀ w ∈ u_ws RX8 TX8 5, w ∈ en_G := en_sub _ [274, 276, 278, 280, 282] (by decide +kernel) (by decide +kernel)
theorem wf_X9 : ∀ w ∈ u_ws RX9 TX9 13, w ∈ en_G := en_sub _ [344, 346, 348, 350, 352, 354, 356, 358, 360, 362, 364, 366, 368] (by decide +kernel) (by decide +kernel)
theorem wf_X10 : ∀ w ∈ u_ws RX10 TX10 13, w ∈ en_G := en_sub _ [443, 445, 447, 449, 451, 453, 455, 457, 459, 461, 463, 465, 467] (by decide +kernel) (by decide +kernel)
theorem wf_X11 : ∀ w ∈ u_ws RX11 TX11 60, w ∈ en_G := en_sub _ [1214, 1216, 1218, 1220, 1222, 1224, 1226, 1228, 1230, 1232, 1234, 1236, 1238, 1240, 1242, 1244, 1246, 1248, 1250, 1252, 1254, 1256, 1258, 1260, 1262, 1264, 1266, 1268, 1270, 1272, 1274, 1276, 1278, 1280, 1282, 1284, 1286, 1288, 1290, 1292, 1294, 1296, 1298, 1300, 1302, 1304, 1306, 1308, 1310, 1312, 1314, 1316, 1318, 1320, 1322, 1324, 1326, 1328, 1330, 1332] (by decide +kernel) (by decide +kernel)
theorem en_CL : rf_CL nm_cl nm_ct en_G := by
  intro ci C T N h
  match ci, h with
  | 0, h => cases h; exact ⟨tyX0, rfl, tyX0_ok, nmX0, wf_X0⟩
  | 1, h => cases h; exact ⟨tyX1, rfl, tyX1_ok, nmX1, wf_X1⟩
  | 2, h => cases h; exact ⟨tyX2, rfl, tyX2_ok, nmX2, wf_X2⟩
  | 3, h => cases h; exact ⟨tyX3, rfl, tyX3_ok, nmX3, wf_X3⟩
  | 4, h => cases h; exact ⟨tyX4, rfl, tyX4_ok, nmX4, wf_X4⟩
  | 5, h => cases h; exact ⟨tyX5, rfl, tyX5_ok, nmX5, wf_X5⟩
  | 6, h => cases h; exact ⟨tyX6, rfl, tyX6_ok, nmX6, wf_X6⟩
  | 7, h => cases h; exact ⟨tyX7, rfl, tyX7_ok, nmX7, wf_X7⟩
  | 8, h => cases h; exact ⟨tyX8, rfl, tyX8_ok, nmX8, wf_X8⟩
  | 9, h => cases h; exact ⟨tyX9, rfl, tyX9_ok, nmX9, wf_X9⟩
  | 10, h => cases h; exact ⟨tyX10, rfl, tyX10_ok, nmX10, wf_X10⟩
  | 11, h => cases h; exact ⟨tyX11, rfl, tyX11_ok, nmX11, wf_X11⟩
  | n + 12, h => simp [nm_cl] at h
