/-! the law: its checks -/
theorem ck_L_b_138_0 : (al_L_138.drop 0).head?.all (fun alt => rf_run nm_cl nm_ct en_xs 8 xx_L kc_L cu_L po_L (some .boolean) 1 0 98 16364 (some mu_L_138) 5000 true 1209 alt) = true := by decide +kernel
theorem ck_L_c_138 : ∀ i, i < 1 → (al_L_138.drop i).head?.all (fun alt => rf_run nm_cl nm_ct en_xs 8 xx_L kc_L cu_L po_L (some .boolean) 1 0 98 16364 (some mu_L_138) 5000 true 1209 alt) = true
  | 0, _ => ck_L_b_138_0
  | i + 1, h => absurd h (by omega)
theorem ck_L_n_138 : (al_L_138.drop 1).isEmpty = true := by decide +kernel
theorem ck_L_b_139_0 : (al_L_139.drop 0).head?.all (fun alt => rf_run nm_cl nm_ct en_xs 8 xx_L kc_L cu_L po_L (some .boolean) 1 0 98 16364 (some mu_L_139) 5000 true 1209 alt) = true := by decide +kernel
theorem ck_L_c_139 : ∀ i, i < 1 → (al_L_139.drop i).head?.all (fun alt => rf_run nm_cl nm_ct en_xs 8 xx_L kc_L cu_L po_L (some .boolean) 1 0 98 16364 (some mu_L_139) 5000 true 1209 alt) = true
  | 0, _ => ck_L_b_139_0
  | i + 1, h => absurd h (by omega)
theorem ck_L_n_139 : (al_L_139.drop 1).isEmpty = true := by decide +kernel
theorem ck_L_b_140_0 : (al_L_140.drop 0).head?.all (fun alt => rf_run nm_cl nm_ct en_xs 8 xx_L kc_L cu_L po_L (some .boolean) 1 0 98 16364 (some mu_L_140) 5000 true 1209 alt) = true := by decide +kernel
theorem ck_L_c_140 : ∀ i, i < 1 → (al_L_140.drop i).head?.all (fun alt => rf_run nm_cl nm_ct en_xs 8 xx_L kc_L cu_L po_L (some .boolean) 1 0 98 16364 (some mu_L_140) 5000 true 1209 alt) = true
  | 0, _ => ck_L_b_140_0
  | i + 1, h => absurd h (by omega)
theorem ck_L_n_140 : (al_L_140.drop 1).isEmpty = true := by decide +kernel
theorem ck_L_b_141_0 : (al_L_141.drop 0).head?.all (fun alt => rf_run nm_cl nm_ct en_xs 8 xx_L kc_L cu_L po_L (some .boolean) 1 0 98 16364 (some mu_L_141) 5000 true 1209 alt) = true := by decide +kernel
theorem ck_L_c_141 : ∀ i, i < 1 → (al_L_141.drop i).head?.all (fun alt => rf_run nm_cl nm_ct en_xs 8 xx_L kc_L cu_L po_L (some .boolean) 1 0 98 16364 (some mu_L_141) 5000 true 1209 alt) = true
  | 0, _ => ck_L_b_141_0
  | i + 1, h => absurd h (by omega)
theorem ck_L_n_141 : (al_L_141.drop 1).isEmpty = true := by decide +kernel
theorem ck_L_b_142_0 : (al_L_142.drop 0).head?.all (fun alt => rf_run nm_cl nm_ct en_xs 8 xx_L kc_L cu_L po_L (some .boolean) 1 0 98 16364 (some mu_L_142) 5000 true 1209 alt) = true := by decide +kernel
theorem ck_L_c_142 : ∀ i, i < 1 → (al_L_142.drop i).head?.all (fun alt => rf_run nm_cl nm_ct en_xs 8 xx_L kc_L cu_L po_L (some .boolean) 1 0 98 16364 (some mu_L_142) 5000 true 1209 alt) = true
  | 0, _ => ck_L_b_142_0
  | i + 1, h => absurd h (by omega)
theorem ck_L_n_142 : (al_L_142.drop 1).isEmpty = true := by decide +kernel
theorem ck_L_b_143_0 : (al_L_143.drop 0).head?.all (fun alt => rf_run nm_cl nm_ct en_xs 8 xx_L kc_L cu_L po_L (some .boolean) 1 0 98 16364 (some mu_L_143) 5000 true 1209 alt) = true := by decide +kernel
theorem ck_L_c_143 : ∀ i, i < 1 → (al_L_143.drop i).head?.all (fun alt => rf_run nm_cl nm_ct en_xs 8 xx_L kc_L cu_L po_L (some .boolean) 1 0 98 16364 (some mu_L_143) 5000 true 1209 alt) = true
  | 0, _ => ck_L_b_143_0
  | i + 1, h => absurd h (by omega)
theorem ck_L_n_143 : (al_L_143.drop 1).isEmpty = true := by decide +kernel
theorem ck_L_b_144_0 : (al_L_144.drop 0).head?.all (fun alt => rf_run nm_cl nm_ct en_xs 8 xx_L kc_L cu_L po_L (some .boolean) 1 0 98 16364 (some mu_L_144) 5000 true 1209 alt) = true := by decide +kernel
theorem ck_L_c_144 : ∀ i, i < 1 → (al_L_144.drop i).head?.all (fun alt => rf_run nm_cl nm_ct en_xs 8 xx_L kc_L cu_L po_L (some .boolean) 1 0 98 16364 (some mu_L_144) 5000 true 1209 alt) = true
  | 0, _ => ck_L_b_144_0
  | i + 1, h => absurd h (by omega)
theorem ck_L_n_144 : (al_L_144.drop 1).isEmpty = true := by decide +kernel
theorem ck_L_b_145_0 : (al_L_145.drop 0).head?.all (fun alt => rf_run nm_cl nm_ct en_xs 8 xx_L kc_L cu_L po_L (some .boolean) 1 0 98 16364 (some mu_L_145) 5000 true 1209 alt) = true := by decide +kernel
theorem ck_L_c_145 : ∀ i, i < 1 → (al_L_145.drop i).head?.all (fun alt => rf_run nm_cl nm_ct en_xs 8 xx_L kc_L cu_L po_L (some .boolean) 1 0 98 16364 (some mu_L_145) 5000 true 1209 alt) = true
  | 0, _ => ck_L_b_145_0
  | i + 1, h => absurd h (by omega)
theorem ck_L_n_145 : (al_L_145.drop 1).isEmpty = true := by decide +kernel
theorem ck_L_b_146_0 : (al_L_146.drop 0).head?.all (fun alt => rf_run nm_cl nm_ct en_xs 8 xx_L kc_L cu_L po_L (some .boolean) 1 0 98 16364 (some mu_L_146) 5000 true 1213 alt) = true := by decide +kernel
theorem ck_L_c_146 : ∀ i, i < 1 → (al_L_146.drop i).head?.all (fun alt => rf_run nm_cl nm_ct en_xs 8 xx_L kc_L cu_L po_L (some .boolean) 1 0 98 16364 (some mu_L_146) 5000 true 1213 alt) = true
  | 0, _ => ck_L_b_146_0
  | i + 1, h => absurd h (by omega)
theorem ck_L_n_146 : (al_L_146.drop 1).isEmpty = true := by decide +kernel
theorem ck_L_b_147_0 : (al_L_147.drop 0).head?.all (fun alt => rf_run nm_cl nm_ct en_xs 8 xx_L kc_L cu_L po_L (some .boolean) 1 0 98 16364 (some mu_L_147) 5000 true 1229 alt) = true := by decide +kernel
theorem ck_L_b_147_1 : (al_L_147.drop 1).head?.all (fun alt => rf_run nm_cl nm_ct en_xs 8 xx_L kc_L cu_L po_L (some .boolean) 1 0 98 16364 (some mu_L_147) 5000 true 1229 alt) = true := by decide +kernel
theorem ck_L_b_147_2 : (al_L_147.drop 2).head?.all (fun alt => rf_run nm_cl nm_ct en_xs 8 xx_L kc_L cu_L po_L (some .boolean) 1 0 98 16364 (some mu_L_147) 5000 true 1229 alt) = true := by decide +kernel
