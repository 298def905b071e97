/-! the law: its checks -/
theorem ck_L_b_147_3 : (al_L_147.drop 3).head?.all (fun alt => rf_run nm_cl nm_ct en_xs 8 xx_L kc_L cu_L po_L (some .boolean) 1 0 98 16364 (some mu_L_147) 5000 true 1229 alt) = true := by decide +kernel
theorem ck_L_b_147_4 : (al_L_147.drop 4).head?.all (fun alt => rf_run nm_cl nm_ct en_xs 8 xx_L kc_L cu_L po_L (some .boolean) 1 0 98 16364 (some mu_L_147) 5000 true 1229 alt) = true := by decide +kernel
theorem ck_L_b_147_5 : (al_L_147.drop 5).head?.all (fun alt => rf_run nm_cl nm_ct en_xs 8 xx_L kc_L cu_L po_L (some .boolean) 1 0 98 16364 (some mu_L_147) 5000 true 1229 alt) = true := by decide +kernel
theorem ck_L_b_147_6 : (al_L_147.drop 6).head?.all (fun alt => rf_run nm_cl nm_ct en_xs 8 xx_L kc_L cu_L po_L (some .boolean) 1 0 98 16364 (some mu_L_147) 5000 true 1229 alt) = true := by decide +kernel
theorem ck_L_b_147_7 : (al_L_147.drop 7).head?.all (fun alt => rf_run nm_cl nm_ct en_xs 8 xx_L kc_L cu_L po_L (some .boolean) 1 0 98 16364 (some mu_L_147) 5000 true 1229 alt) = true := by decide +kernel
theorem ck_L_c_147 : ∀ i, i < 8 → (al_L_147.drop i).head?.all (fun alt => rf_run nm_cl nm_ct en_xs 8 xx_L kc_L cu_L po_L (some .boolean) 1 0 98 16364 (some mu_L_147) 5000 true 1229 alt) = true
  | 0, _ => ck_L_b_147_0
  | 1, _ => ck_L_b_147_1
  | 2, _ => ck_L_b_147_2
  | 3, _ => ck_L_b_147_3
  | 4, _ => ck_L_b_147_4
  | 5, _ => ck_L_b_147_5
  | 6, _ => ck_L_b_147_6
  | 7, _ => ck_L_b_147_7
  | i + 8, h => absurd h (by omega)
theorem ck_L_n_147 : (al_L_147.drop 8).isEmpty = true := by decide +kernel
theorem ck_L_b_148_0 : (al_L_148.drop 0).head?.all (fun alt => rf_run nm_cl nm_ct en_xs 8 xx_L kc_L cu_L po_L (some .boolean) 1 0 98 16364 (some mu_L_148) 5000 true 1252 alt) = true := by decide +kernel
theorem ck_L_c_148 : ∀ i, i < 1 → (al_L_148.drop i).head?.all (fun alt => rf_run nm_cl nm_ct en_xs 8 xx_L kc_L cu_L po_L (some .boolean) 1 0 98 16364 (some mu_L_148) 5000 true 1252 alt) = true
  | 0, _ => ck_L_b_148_0
  | i + 1, h => absurd h (by omega)
theorem ck_L_n_148 : (al_L_148.drop 1).isEmpty = true := by decide +kernel
theorem ck_L_b_149_0 : (al_L_149.drop 0).head?.all (fun alt => rf_run nm_cl nm_ct en_xs 8 xx_L kc_L cu_L po_L (some .boolean) 1 0 98 16364 (some mu_L_149) 5000 true 1252 alt) = true := by decide +kernel
theorem ck_L_c_149 : ∀ i, i < 1 → (al_L_149.drop i).head?.all (fun alt => rf_run nm_cl nm_ct en_xs 8 xx_L kc_L cu_L po_L (some .boolean) 1 0 98 16364 (some mu_L_149) 5000 true 1252 alt) = true
  | 0, _ => ck_L_b_149_0
  | i + 1, h => absurd h (by omega)
theorem ck_L_n_149 : (al_L_149.drop 1).isEmpty = true := by decide +kernel
theorem ck_L_b_150_0 : (al_L_150.drop 0).head?.all (fun alt => rf_run nm_cl nm_ct en_xs 8 xx_L kc_L cu_L po_L (some .boolean) 1 0 98 16364 (some mu_L_150) 5000 true 1252 alt) = true := by decide +kernel
theorem ck_L_c_150 : ∀ i, i < 1 → (al_L_150.drop i).head?.all (fun alt => rf_run nm_cl nm_ct en_xs 8 xx_L kc_L cu_L po_L (some .boolean) 1 0 98 16364 (some mu_L_150) 5000 true 1252 alt) = true
  | 0, _ => ck_L_b_150_0
  | i + 1, h => absurd h (by omega)
theorem ck_L_n_150 : (al_L_150.drop 1).isEmpty = true := by decide +kernel
theorem ck_L_b_151_0 : (al_L_151.drop 0).head?.all (fun alt => rf_run nm_cl nm_ct en_xs 8 xx_L kc_L cu_L po_L (some .boolean) 1 0 98 16364 (some mu_L_151) 5000 true 1252 alt) = true := by decide +kernel
theorem ck_L_c_151 : ∀ i, i < 1 → (al_L_151.drop i).head?.all (fun alt => rf_run nm_cl nm_ct en_xs 8 xx_L kc_L cu_L po_L (some .boolean) 1 0 98 16364 (some mu_L_151) 5000 true 1252 alt) = true
  | 0, _ => ck_L_b_151_0
  | i + 1, h => absurd h (by omega)
theorem ck_L_n_151 : (al_L_151.drop 1).isEmpty = true := by decide +kernel
theorem ck_L_b_152_0 : (al_L_152.drop 0).head?.all (fun alt => rf_run nm_cl nm_ct en_xs 8 xx_L kc_L cu_L po_L (some .boolean) 1 0 98 16364 (some mu_L_152) 5000 true 1252 alt) = true := by decide +kernel
theorem ck_L_c_152 : ∀ i, i < 1 → (al_L_152.drop i).head?.all (fun alt => rf_run nm_cl nm_ct en_xs 8 xx_L kc_L cu_L po_L (some .boolean) 1 0 98 16364 (some mu_L_152) 5000 true 1252 alt) = true
  | 0, _ => ck_L_b_152_0
  | i + 1, h => absurd h (by omega)
theorem ck_L_n_152 : (al_L_152.drop 1).isEmpty = true := by decide +kernel
theorem ck_L_b_153_0 : (al_L_153.drop 0).head?.all (fun alt => rf_run nm_cl nm_ct en_xs 8 xx_L kc_L cu_L po_L (some .boolean) 1 0 98 16364 (some mu_L_153) 5000 true 1252 alt) = true := by decide +kernel
theorem ck_L_c_153 : ∀ i, i < 1 → (al_L_153.drop i).head?.all (fun alt => rf_run nm_cl nm_ct en_xs 8 xx_L kc_L cu_L po_L (some .boolean) 1 0 98 16364 (some mu_L_153) 5000 true 1252 alt) = true
  | 0, _ => ck_L_b_153_0
  | i + 1, h => absurd h (by omega)
theorem ck_L_n_153 : (al_L_153.drop 1).isEmpty = true := by decide +kernel
theorem ck_L_b_154_0 : (al_L_154.drop 0).head?.all (fun alt => rf_run nm_cl nm_ct en_xs 8 xx_L kc_L cu_L po_L (some .boolean) 1 0 98 16364 (some mu_L_154) 5000 true 1252 alt) = true := by decide +kernel
theorem ck_L_c_154 : ∀ i, i < 1 → (al_L_154.drop i).head?.all (fun alt => rf_run nm_cl nm_ct en_xs 8 xx_L kc_L cu_L po_L (some .boolean) 1 0 98 16364 (some mu_L_154) 5000 true 1252 alt) = true
  | 0, _ => ck_L_b_154_0
  | i + 1, h => absurd h (by omega)
theorem ck_L_n_154 : (al_L_154.drop 1).isEmpty = true := by decide +kernel
