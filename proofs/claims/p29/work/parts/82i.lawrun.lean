/-! the law: its checks -/
theorem ck_L_b_114_0 : (al_L_114.drop 0).head?.all (fun alt => rf_run nm_cl nm_ct en_xs 8 xx_L kc_L cu_L po_L (some .boolean) 1 0 98 16364 (some mu_L_114) 5000 true 1194 alt) = true := by decide +kernel
theorem ck_L_c_114 : ∀ i, i < 1 → (al_L_114.drop i).head?.all (fun alt => rf_run nm_cl nm_ct en_xs 8 xx_L kc_L cu_L po_L (some .boolean) 1 0 98 16364 (some mu_L_114) 5000 true 1194 alt) = true
  | 0, _ => ck_L_b_114_0
  | i + 1, h => absurd h (by omega)
theorem ck_L_n_114 : (al_L_114.drop 1).isEmpty = true := by decide +kernel
theorem ck_L_b_115_0 : (al_L_115.drop 0).head?.all (fun alt => rf_run nm_cl nm_ct en_xs 8 xx_L kc_L cu_L po_L (some .boolean) 1 0 98 16364 (some mu_L_115) 5000 true 1194 alt) = true := by decide +kernel
theorem ck_L_c_115 : ∀ i, i < 1 → (al_L_115.drop i).head?.all (fun alt => rf_run nm_cl nm_ct en_xs 8 xx_L kc_L cu_L po_L (some .boolean) 1 0 98 16364 (some mu_L_115) 5000 true 1194 alt) = true
  | 0, _ => ck_L_b_115_0
  | i + 1, h => absurd h (by omega)
theorem ck_L_n_115 : (al_L_115.drop 1).isEmpty = true := by decide +kernel
theorem ck_L_b_116_0 : (al_L_116.drop 0).head?.all (fun alt => rf_run nm_cl nm_ct en_xs 8 xx_L kc_L cu_L po_L (some .boolean) 1 0 98 16364 (some mu_L_116) 5000 true 1194 alt) = true := by decide +kernel
theorem ck_L_c_116 : ∀ i, i < 1 → (al_L_116.drop i).head?.all (fun alt => rf_run nm_cl nm_ct en_xs 8 xx_L kc_L cu_L po_L (some .boolean) 1 0 98 16364 (some mu_L_116) 5000 true 1194 alt) = true
  | 0, _ => ck_L_b_116_0
  | i + 1, h => absurd h (by omega)
theorem ck_L_n_116 : (al_L_116.drop 1).isEmpty = true := by decide +kernel
theorem ck_L_b_117_0 : (al_L_117.drop 0).head?.all (fun alt => rf_run nm_cl nm_ct en_xs 8 xx_L kc_L cu_L po_L (some .boolean) 1 0 98 16364 (some mu_L_117) 5000 true 1194 alt) = true := by decide +kernel
theorem ck_L_c_117 : ∀ i, i < 1 → (al_L_117.drop i).head?.all (fun alt => rf_run nm_cl nm_ct en_xs 8 xx_L kc_L cu_L po_L (some .boolean) 1 0 98 16364 (some mu_L_117) 5000 true 1194 alt) = true
  | 0, _ => ck_L_b_117_0
  | i + 1, h => absurd h (by omega)
theorem ck_L_n_117 : (al_L_117.drop 1).isEmpty = true := by decide +kernel
theorem ck_L_b_118_0 : (al_L_118.drop 0).head?.all (fun alt => rf_run nm_cl nm_ct en_xs 8 xx_L kc_L cu_L po_L (some .boolean) 1 0 98 16364 (some mu_L_118) 5000 true 1194 alt) = true := by decide +kernel
theorem ck_L_c_118 : ∀ i, i < 1 → (al_L_118.drop i).head?.all (fun alt => rf_run nm_cl nm_ct en_xs 8 xx_L kc_L cu_L po_L (some .boolean) 1 0 98 16364 (some mu_L_118) 5000 true 1194 alt) = true
  | 0, _ => ck_L_b_118_0
  | i + 1, h => absurd h (by omega)
theorem ck_L_n_118 : (al_L_118.drop 1).isEmpty = true := by decide +kernel
theorem ck_L_b_119_0 : (al_L_119.drop 0).head?.all (fun alt => rf_run nm_cl nm_ct en_xs 8 xx_L kc_L cu_L po_L (some .boolean) 1 0 98 16364 (some mu_L_119) 5000 true 1194 alt) = true := by decide +kernel
theorem ck_L_c_119 : ∀ i, i < 1 → (al_L_119.drop i).head?.all (fun alt => rf_run nm_cl nm_ct en_xs 8 xx_L kc_L cu_L po_L (some .boolean) 1 0 98 16364 (some mu_L_119) 5000 true 1194 alt) = true
  | 0, _ => ck_L_b_119_0
  | i + 1, h => absurd h (by omega)
theorem ck_L_n_119 : (al_L_119.drop 1).isEmpty = true := by decide +kernel
theorem ck_L_b_120_0 : (al_L_120.drop 0).head?.all (fun alt => rf_run nm_cl nm_ct en_xs 8 xx_L kc_L cu_L po_L (some .boolean) 1 0 98 16364 (some mu_L_120) 5000 true 1194 alt) = true := by decide +kernel
theorem ck_L_c_120 : ∀ i, i < 1 → (al_L_120.drop i).head?.all (fun alt => rf_run nm_cl nm_ct en_xs 8 xx_L kc_L cu_L po_L (some .boolean) 1 0 98 16364 (some mu_L_120) 5000 true 1194 alt) = true
  | 0, _ => ck_L_b_120_0
  | i + 1, h => absurd h (by omega)
theorem ck_L_n_120 : (al_L_120.drop 1).isEmpty = true := by decide +kernel
theorem ck_L_b_121_0 : (al_L_121.drop 0).head?.all (fun alt => rf_run nm_cl nm_ct en_xs 8 xx_L kc_L cu_L po_L (some .boolean) 1 0 98 16364 (some mu_L_121) 5000 true 1194 alt) = true := by decide +kernel
theorem ck_L_c_121 : ∀ i, i < 1 → (al_L_121.drop i).head?.all (fun alt => rf_run nm_cl nm_ct en_xs 8 xx_L kc_L cu_L po_L (some .boolean) 1 0 98 16364 (some mu_L_121) 5000 true 1194 alt) = true
  | 0, _ => ck_L_b_121_0
  | i + 1, h => absurd h (by omega)
theorem ck_L_n_121 : (al_L_121.drop 1).isEmpty = true := by decide +kernel
theorem ck_L_b_122_0 : (al_L_122.drop 0).head?.all (fun alt => rf_run nm_cl nm_ct en_xs 8 xx_L kc_L cu_L po_L (some .boolean) 1 0 98 16364 (some mu_L_122) 5000 true 1194 alt) = true := by decide +kernel
theorem ck_L_c_122 : ∀ i, i < 1 → (al_L_122.drop i).head?.all (fun alt => rf_run nm_cl nm_ct en_xs 8 xx_L kc_L cu_L po_L (some .boolean) 1 0 98 16364 (some mu_L_122) 5000 true 1194 alt) = true
  | 0, _ => ck_L_b_122_0
  | i + 1, h => absurd h (by omega)
theorem ck_L_n_122 : (al_L_122.drop 1).isEmpty = true := by decide +kernel
theorem ck_L_b_123_0 : (al_L_123.drop 0).head?.all (fun alt => rf_run nm_cl nm_ct en_xs 8 xx_L kc_L cu_L po_L (some .boolean) 1 0 98 16364 (some mu_L_123) 5000 true 1194 alt) = true := by decide +kernel
theorem ck_L_c_123 : ∀ i, i < 1 → (al_L_123.drop i).head?.all (fun alt => rf_run nm_cl nm_ct en_xs 8 xx_L kc_L cu_L po_L (some .boolean) 1 0 98 16364 (some mu_L_123) 5000 true 1194 alt) = true
  | 0, _ => ck_L_b_123_0
  | i + 1, h => absurd h (by omega)
theorem ck_L_n_123 : (al_L_123.drop 1).isEmpty = true := by decide +kernel
theorem ck_L_b_124_0 : (al_L_124.drop 0).head?.all (fun alt => rf_run nm_cl nm_ct en_xs 8 xx_L kc_L cu_L po_L (some .boolean) 1 0 98 16364 (some mu_L_124) 5000 true 1194 alt) = true := by decide +kernel
theorem ck_L_c_124 : ∀ i, i < 1 → (al_L_124.drop i).head?.all (fun alt => rf_run nm_cl nm_ct en_xs 8 xx_L kc_L cu_L po_L (some .boolean) 1 0 98 16364 (some mu_L_124) 5000 true 1194 alt) = true
  | 0, _ => ck_L_b_124_0
  | i + 1, h => absurd h (by omega)
theorem ck_L_n_124 : (al_L_124.drop 1).isEmpty = true := by decide +kernel
theorem ck_L_b_125_0 : (al_L_125.drop 0).head?.all (fun alt => rf_run nm_cl nm_ct en_xs 8 xx_L kc_L cu_L po_L (some .boolean) 1 0 98 16364 (some mu_L_125) 5000 true 1194 alt) = true := by decide +kernel
theorem ck_L_c_125 : ∀ i, i < 1 → (al_L_125.drop i).head?.all (fun alt => rf_run nm_cl nm_ct en_xs 8 xx_L kc_L cu_L po_L (some .boolean) 1 0 98 16364 (some mu_L_125) 5000 true 1194 alt) = true
  | 0, _ => ck_L_b_125_0
  | i + 1, h => absurd h (by omega)
theorem ck_L_n_125 : (al_L_125.drop 1).isEmpty = true := by decide +kernel
