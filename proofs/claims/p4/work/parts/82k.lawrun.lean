/-! the law: its checks -/
theorem ck_L_b_131_0 : (al_L_131.drop 0).head?.all (fun alt => rf_run nm_cl nm_ct en_xs 8 xx_L kc_L cu_L po_L (some .boolean) 1 0 98 16364 (some mu_L_131) 5000 true 1325 alt) = true := by decide +kernel
theorem ck_L_c_131 : ∀ i, i < 1 → (al_L_131.drop i).head?.all (fun alt => rf_run nm_cl nm_ct en_xs 8 xx_L kc_L cu_L po_L (some .boolean) 1 0 98 16364 (some mu_L_131) 5000 true 1325 alt) = true
  | 0, _ => ck_L_b_131_0
  | i + 1, h => absurd h (by omega)
theorem ck_L_n_131 : (al_L_131.drop 1).isEmpty = true := by decide +kernel
theorem ck_L_b_132_0 : (al_L_132.drop 0).head?.all (fun alt => rf_run nm_cl nm_ct en_xs 8 xx_L kc_L cu_L po_L (some .boolean) 1 0 98 16364 (some mu_L_132) 5000 true 1325 alt) = true := by decide +kernel
theorem ck_L_c_132 : ∀ i, i < 1 → (al_L_132.drop i).head?.all (fun alt => rf_run nm_cl nm_ct en_xs 8 xx_L kc_L cu_L po_L (some .boolean) 1 0 98 16364 (some mu_L_132) 5000 true 1325 alt) = true
  | 0, _ => ck_L_b_132_0
  | i + 1, h => absurd h (by omega)
theorem ck_L_n_132 : (al_L_132.drop 1).isEmpty = true := by decide +kernel
theorem ck_L_b_133_0 : (al_L_133.drop 0).head?.all (fun alt => rf_run nm_cl nm_ct en_xs 8 xx_L kc_L cu_L po_L (some .boolean) 1 0 98 16364 (some mu_L_133) 5000 true 1325 alt) = true := by decide +kernel
theorem ck_L_c_133 : ∀ i, i < 1 → (al_L_133.drop i).head?.all (fun alt => rf_run nm_cl nm_ct en_xs 8 xx_L kc_L cu_L po_L (some .boolean) 1 0 98 16364 (some mu_L_133) 5000 true 1325 alt) = true
  | 0, _ => ck_L_b_133_0
  | i + 1, h => absurd h (by omega)
theorem ck_L_n_133 : (al_L_133.drop 1).isEmpty = true := by decide +kernel
theorem ck_L_b_134_0 : (al_L_134.drop 0).head?.all (fun alt => rf_run nm_cl nm_ct en_xs 8 xx_L kc_L cu_L po_L (some .boolean) 1 0 98 16364 (some mu_L_134) 5000 true 1325 alt) = true := by decide +kernel
theorem ck_L_c_134 : ∀ i, i < 1 → (al_L_134.drop i).head?.all (fun alt => rf_run nm_cl nm_ct en_xs 8 xx_L kc_L cu_L po_L (some .boolean) 1 0 98 16364 (some mu_L_134) 5000 true 1325 alt) = true
  | 0, _ => ck_L_b_134_0
  | i + 1, h => absurd h (by omega)
theorem ck_L_n_134 : (al_L_134.drop 1).isEmpty = true := by decide +kernel
theorem ck_L_b_135_0 : (al_L_135.drop 0).head?.all (fun alt => rf_run nm_cl nm_ct en_xs 8 xx_L kc_L cu_L po_L (some .boolean) 1 0 98 16364 (some mu_L_135) 5000 true 1325 alt) = true := by decide +kernel
theorem ck_L_c_135 : ∀ i, i < 1 → (al_L_135.drop i).head?.all (fun alt => rf_run nm_cl nm_ct en_xs 8 xx_L kc_L cu_L po_L (some .boolean) 1 0 98 16364 (some mu_L_135) 5000 true 1325 alt) = true
  | 0, _ => ck_L_b_135_0
  | i + 1, h => absurd h (by omega)
theorem ck_L_n_135 : (al_L_135.drop 1).isEmpty = true := by decide +kernel
theorem ck_L_b_136_0 : (al_L_136.drop 0).head?.all (fun alt => rf_run nm_cl nm_ct en_xs 8 xx_L kc_L cu_L po_L (some .boolean) 1 0 98 16364 (some mu_L_136) 5000 true 1329 alt) = true := by decide +kernel
theorem ck_L_c_136 : ∀ i, i < 1 → (al_L_136.drop i).head?.all (fun alt => rf_run nm_cl nm_ct en_xs 8 xx_L kc_L cu_L po_L (some .boolean) 1 0 98 16364 (some mu_L_136) 5000 true 1329 alt) = true
  | 0, _ => ck_L_b_136_0
  | i + 1, h => absurd h (by omega)
theorem ck_L_n_136 : (al_L_136.drop 1).isEmpty = true := by decide +kernel
theorem ck_L_b_137_0 : (al_L_137.drop 0).head?.all (fun alt => rf_run nm_cl nm_ct en_xs 8 xx_L kc_L cu_L po_L (some .boolean) 1 0 98 16364 (some mu_L_137) 5000 true 1358 alt) = true := by decide +kernel
theorem ck_L_c_137 : ∀ i, i < 1 → (al_L_137.drop i).head?.all (fun alt => rf_run nm_cl nm_ct en_xs 8 xx_L kc_L cu_L po_L (some .boolean) 1 0 98 16364 (some mu_L_137) 5000 true 1358 alt) = true
  | 0, _ => ck_L_b_137_0
  | i + 1, h => absurd h (by omega)
theorem ck_L_n_137 : (al_L_137.drop 1).isEmpty = true := by decide +kernel
theorem ck_L_b_138_0 : (al_L_138.drop 0).head?.all (fun alt => rf_run nm_cl nm_ct en_xs 8 xx_L kc_L cu_L po_L (some .boolean) 1 0 98 16364 (some mu_L_138) 5000 true 1358 alt) = true := by decide +kernel
theorem ck_L_c_138 : ∀ i, i < 1 → (al_L_138.drop i).head?.all (fun alt => rf_run nm_cl nm_ct en_xs 8 xx_L kc_L cu_L po_L (some .boolean) 1 0 98 16364 (some mu_L_138) 5000 true 1358 alt) = true
  | 0, _ => ck_L_b_138_0
  | i + 1, h => absurd h (by omega)
theorem ck_L_n_138 : (al_L_138.drop 1).isEmpty = true := by decide +kernel
theorem ck_L_b_139_0 : (al_L_139.drop 0).head?.all (fun alt => rf_run nm_cl nm_ct en_xs 8 xx_L kc_L cu_L po_L (some .boolean) 1 0 98 16364 (some mu_L_139) 5000 true 1358 alt) = true := by decide +kernel
theorem ck_L_c_139 : ∀ i, i < 1 → (al_L_139.drop i).head?.all (fun alt => rf_run nm_cl nm_ct en_xs 8 xx_L kc_L cu_L po_L (some .boolean) 1 0 98 16364 (some mu_L_139) 5000 true 1358 alt) = true
  | 0, _ => ck_L_b_139_0
  | i + 1, h => absurd h (by omega)
theorem ck_L_n_139 : (al_L_139.drop 1).isEmpty = true := by decide +kernel
theorem ck_L_b_140_0 : (al_L_140.drop 0).head?.all (fun alt => rf_run nm_cl nm_ct en_xs 8 xx_L kc_L cu_L po_L (some .boolean) 1 0 98 16364 (some mu_L_140) 5000 true 1358 alt) = true := by decide +kernel
theorem ck_L_c_140 : ∀ i, i < 1 → (al_L_140.drop i).head?.all (fun alt => rf_run nm_cl nm_ct en_xs 8 xx_L kc_L cu_L po_L (some .boolean) 1 0 98 16364 (some mu_L_140) 5000 true 1358 alt) = true
  | 0, _ => ck_L_b_140_0
  | i + 1, h => absurd h (by omega)
theorem ck_L_n_140 : (al_L_140.drop 1).isEmpty = true := by decide +kernel
theorem ck_L_b_141_0 : (al_L_141.drop 0).head?.all (fun alt => rf_run nm_cl nm_ct en_xs 8 xx_L kc_L cu_L po_L (some .boolean) 1 0 98 16364 (some mu_L_141) 5000 true 1358 alt) = true := by decide +kernel
theorem ck_L_c_141 : ∀ i, i < 1 → (al_L_141.drop i).head?.all (fun alt => rf_run nm_cl nm_ct en_xs 8 xx_L kc_L cu_L po_L (some .boolean) 1 0 98 16364 (some mu_L_141) 5000 true 1358 alt) = true
  | 0, _ => ck_L_b_141_0
  | i + 1, h => absurd h (by omega)
theorem ck_L_n_141 : (al_L_141.drop 1).isEmpty = true := by decide +kernel
theorem ck_L_b_142_0 : (al_L_142.drop 0).head?.all (fun alt => rf_run nm_cl nm_ct en_xs 8 xx_L kc_L cu_L po_L (some .boolean) 1 0 98 16364 (some mu_L_142) 5000 true 1358 alt) = true := by decide +kernel
theorem ck_L_c_142 : ∀ i, i < 1 → (al_L_142.drop i).head?.all (fun alt => rf_run nm_cl nm_ct en_xs 8 xx_L kc_L cu_L po_L (some .boolean) 1 0 98 16364 (some mu_L_142) 5000 true 1358 alt) = true
  | 0, _ => ck_L_b_142_0
  | i + 1, h => absurd h (by omega)
theorem ck_L_n_142 : (al_L_142.drop 1).isEmpty = true := by decide +kernel
