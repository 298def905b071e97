/-! the law: its checks -/
theorem ck_L_b_119_0 : (al_L_119.drop 0).head?.all (fun alt => rf_run nm_cl nm_ct en_xs 8 xx_L kc_L cu_L po_L (some .boolean) 1 0 98 16364 (some mu_L_119) 5000 true 1252 alt) = true := by decide +kernel
theorem ck_L_c_119 : ∀ i, i < 1 → (al_L_119.drop i).head?.all (fun alt => rf_run nm_cl nm_ct en_xs 8 xx_L kc_L cu_L po_L (some .boolean) 1 0 98 16364 (some mu_L_119) 5000 true 1252 alt) = true
  | 0, _ => ck_L_b_119_0
  | i + 1, h => absurd h (by omega)
theorem ck_L_n_119 : (al_L_119.drop 1).isEmpty = true := by decide +kernel
theorem ck_L_b_120_0 : (al_L_120.drop 0).head?.all (fun alt => rf_run nm_cl nm_ct en_xs 8 xx_L kc_L cu_L po_L (some .boolean) 1 0 98 16364 (some mu_L_120) 5000 true 1252 alt) = true := by decide +kernel
theorem ck_L_c_120 : ∀ i, i < 1 → (al_L_120.drop i).head?.all (fun alt => rf_run nm_cl nm_ct en_xs 8 xx_L kc_L cu_L po_L (some .boolean) 1 0 98 16364 (some mu_L_120) 5000 true 1252 alt) = true
  | 0, _ => ck_L_b_120_0
  | i + 1, h => absurd h (by omega)
theorem ck_L_n_120 : (al_L_120.drop 1).isEmpty = true := by decide +kernel
theorem ck_L_b_121_0 : (al_L_121.drop 0).head?.all (fun alt => rf_run nm_cl nm_ct en_xs 8 xx_L kc_L cu_L po_L (some .boolean) 1 0 98 16364 (some mu_L_121) 5000 true 1252 alt) = true := by decide +kernel
theorem ck_L_c_121 : ∀ i, i < 1 → (al_L_121.drop i).head?.all (fun alt => rf_run nm_cl nm_ct en_xs 8 xx_L kc_L cu_L po_L (some .boolean) 1 0 98 16364 (some mu_L_121) 5000 true 1252 alt) = true
  | 0, _ => ck_L_b_121_0
  | i + 1, h => absurd h (by omega)
theorem ck_L_n_121 : (al_L_121.drop 1).isEmpty = true := by decide +kernel
theorem ck_L_b_122_0 : (al_L_122.drop 0).head?.all (fun alt => rf_run nm_cl nm_ct en_xs 8 xx_L kc_L cu_L po_L (some .boolean) 1 0 98 16364 (some mu_L_122) 5000 true 1252 alt) = true := by decide +kernel
theorem ck_L_c_122 : ∀ i, i < 1 → (al_L_122.drop i).head?.all (fun alt => rf_run nm_cl nm_ct en_xs 8 xx_L kc_L cu_L po_L (some .boolean) 1 0 98 16364 (some mu_L_122) 5000 true 1252 alt) = true
  | 0, _ => ck_L_b_122_0
  | i + 1, h => absurd h (by omega)
theorem ck_L_n_122 : (al_L_122.drop 1).isEmpty = true := by decide +kernel
theorem ck_L_b_123_0 : (al_L_123.drop 0).head?.all (fun alt => rf_run nm_cl nm_ct en_xs 8 xx_L kc_L cu_L po_L (some .boolean) 1 0 98 16364 (some mu_L_123) 5000 true 1256 alt) = true := by decide +kernel
theorem ck_L_c_123 : ∀ i, i < 1 → (al_L_123.drop i).head?.all (fun alt => rf_run nm_cl nm_ct en_xs 8 xx_L kc_L cu_L po_L (some .boolean) 1 0 98 16364 (some mu_L_123) 5000 true 1256 alt) = true
  | 0, _ => ck_L_b_123_0
  | i + 1, h => absurd h (by omega)
theorem ck_L_n_123 : (al_L_123.drop 1).isEmpty = true := by decide +kernel
theorem ck_L_b_124_0 : (al_L_124.drop 0).head?.all (fun alt => rf_run nm_cl nm_ct en_xs 8 xx_L kc_L cu_L po_L (some .boolean) 1 0 98 16364 (some mu_L_124) 5000 true 1325 alt) = true := by decide +kernel
theorem ck_L_c_124 : ∀ i, i < 1 → (al_L_124.drop i).head?.all (fun alt => rf_run nm_cl nm_ct en_xs 8 xx_L kc_L cu_L po_L (some .boolean) 1 0 98 16364 (some mu_L_124) 5000 true 1325 alt) = true
  | 0, _ => ck_L_b_124_0
  | i + 1, h => absurd h (by omega)
theorem ck_L_n_124 : (al_L_124.drop 1).isEmpty = true := by decide +kernel
theorem ck_L_b_125_0 : (al_L_125.drop 0).head?.all (fun alt => rf_run nm_cl nm_ct en_xs 8 xx_L kc_L cu_L po_L (some .boolean) 1 0 98 16364 (some mu_L_125) 5000 true 1325 alt) = true := by decide +kernel
theorem ck_L_c_125 : ∀ i, i < 1 → (al_L_125.drop i).head?.all (fun alt => rf_run nm_cl nm_ct en_xs 8 xx_L kc_L cu_L po_L (some .boolean) 1 0 98 16364 (some mu_L_125) 5000 true 1325 alt) = true
  | 0, _ => ck_L_b_125_0
  | i + 1, h => absurd h (by omega)
theorem ck_L_n_125 : (al_L_125.drop 1).isEmpty = true := by decide +kernel
theorem ck_L_b_126_0 : (al_L_126.drop 0).head?.all (fun alt => rf_run nm_cl nm_ct en_xs 8 xx_L kc_L cu_L po_L (some .boolean) 1 0 98 16364 (some mu_L_126) 5000 true 1325 alt) = true := by decide +kernel
theorem ck_L_c_126 : ∀ i, i < 1 → (al_L_126.drop i).head?.all (fun alt => rf_run nm_cl nm_ct en_xs 8 xx_L kc_L cu_L po_L (some .boolean) 1 0 98 16364 (some mu_L_126) 5000 true 1325 alt) = true
  | 0, _ => ck_L_b_126_0
  | i + 1, h => absurd h (by omega)
theorem ck_L_n_126 : (al_L_126.drop 1).isEmpty = true := by decide +kernel
theorem ck_L_b_127_0 : (al_L_127.drop 0).head?.all (fun alt => rf_run nm_cl nm_ct en_xs 8 xx_L kc_L cu_L po_L (some .boolean) 1 0 98 16364 (some mu_L_127) 5000 true 1325 alt) = true := by decide +kernel
theorem ck_L_c_127 : ∀ i, i < 1 → (al_L_127.drop i).head?.all (fun alt => rf_run nm_cl nm_ct en_xs 8 xx_L kc_L cu_L po_L (some .boolean) 1 0 98 16364 (some mu_L_127) 5000 true 1325 alt) = true
  | 0, _ => ck_L_b_127_0
  | i + 1, h => absurd h (by omega)
theorem ck_L_n_127 : (al_L_127.drop 1).isEmpty = true := by decide +kernel
theorem ck_L_b_128_0 : (al_L_128.drop 0).head?.all (fun alt => rf_run nm_cl nm_ct en_xs 8 xx_L kc_L cu_L po_L (some .boolean) 1 0 98 16364 (some mu_L_128) 5000 true 1325 alt) = true := by decide +kernel
theorem ck_L_c_128 : ∀ i, i < 1 → (al_L_128.drop i).head?.all (fun alt => rf_run nm_cl nm_ct en_xs 8 xx_L kc_L cu_L po_L (some .boolean) 1 0 98 16364 (some mu_L_128) 5000 true 1325 alt) = true
  | 0, _ => ck_L_b_128_0
  | i + 1, h => absurd h (by omega)
theorem ck_L_n_128 : (al_L_128.drop 1).isEmpty = true := by decide +kernel
theorem ck_L_b_129_0 : (al_L_129.drop 0).head?.all (fun alt => rf_run nm_cl nm_ct en_xs 8 xx_L kc_L cu_L po_L (some .boolean) 1 0 98 16364 (some mu_L_129) 5000 true 1325 alt) = true := by decide +kernel
theorem ck_L_c_129 : ∀ i, i < 1 → (al_L_129.drop i).head?.all (fun alt => rf_run nm_cl nm_ct en_xs 8 xx_L kc_L cu_L po_L (some .boolean) 1 0 98 16364 (some mu_L_129) 5000 true 1325 alt) = true
  | 0, _ => ck_L_b_129_0
  | i + 1, h => absurd h (by omega)
theorem ck_L_n_129 : (al_L_129.drop 1).isEmpty = true := by decide +kernel
theorem ck_L_b_130_0 : (al_L_130.drop 0).head?.all (fun alt => rf_run nm_cl nm_ct en_xs 8 xx_L kc_L cu_L po_L (some .boolean) 1 0 98 16364 (some mu_L_130) 5000 true 1325 alt) = true := by decide +kernel
theorem ck_L_c_130 : ∀ i, i < 1 → (al_L_130.drop i).head?.all (fun alt => rf_run nm_cl nm_ct en_xs 8 xx_L kc_L cu_L po_L (some .boolean) 1 0 98 16364 (some mu_L_130) 5000 true 1325 alt) = true
  | 0, _ => ck_L_b_130_0
  | i + 1, h => absurd h (by omega)
theorem ck_L_n_130 : (al_L_130.drop 1).isEmpty = true := by decide +kernel
