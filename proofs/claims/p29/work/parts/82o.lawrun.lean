/-! the law: its checks -/
theorem ck_L_b_179_0 : (al_L_179.drop 0).head?.all (fun alt => rf_run nm_cl nm_ct en_xs 8 xx_L kc_L cu_L po_L (some .boolean) 1 0 98 16364 (some mu_L_179) 5000 true 1325 alt) = true := by decide +kernel
theorem ck_L_c_179 : ∀ i, i < 1 → (al_L_179.drop i).head?.all (fun alt => rf_run nm_cl nm_ct en_xs 8 xx_L kc_L cu_L po_L (some .boolean) 1 0 98 16364 (some mu_L_179) 5000 true 1325 alt) = true
  | 0, _ => ck_L_b_179_0
  | i + 1, h => absurd h (by omega)
theorem ck_L_n_179 : (al_L_179.drop 1).isEmpty = true := by decide +kernel
theorem ck_L_b_180_0 : (al_L_180.drop 0).head?.all (fun alt => rf_run nm_cl nm_ct en_xs 8 xx_L kc_L cu_L po_L (some .boolean) 1 0 98 16364 (some mu_L_180) 5000 true 1325 alt) = true := by decide +kernel
theorem ck_L_c_180 : ∀ i, i < 1 → (al_L_180.drop i).head?.all (fun alt => rf_run nm_cl nm_ct en_xs 8 xx_L kc_L cu_L po_L (some .boolean) 1 0 98 16364 (some mu_L_180) 5000 true 1325 alt) = true
  | 0, _ => ck_L_b_180_0
  | i + 1, h => absurd h (by omega)
theorem ck_L_n_180 : (al_L_180.drop 1).isEmpty = true := by decide +kernel
theorem ck_L_b_181_0 : (al_L_181.drop 0).head?.all (fun alt => rf_run nm_cl nm_ct en_xs 8 xx_L kc_L cu_L po_L (some .boolean) 1 0 98 16364 (some mu_L_181) 5000 true 1329 alt) = true := by decide +kernel
theorem ck_L_c_181 : ∀ i, i < 1 → (al_L_181.drop i).head?.all (fun alt => rf_run nm_cl nm_ct en_xs 8 xx_L kc_L cu_L po_L (some .boolean) 1 0 98 16364 (some mu_L_181) 5000 true 1329 alt) = true
  | 0, _ => ck_L_b_181_0
  | i + 1, h => absurd h (by omega)
theorem ck_L_n_181 : (al_L_181.drop 1).isEmpty = true := by decide +kernel
theorem ck_L_b_182_0 : (al_L_182.drop 0).head?.all (fun alt => rf_run nm_cl nm_ct en_xs 8 xx_L kc_L cu_L po_L (some .boolean) 1 0 98 16364 (some mu_L_182) 5000 true 1358 alt) = true := by decide +kernel
theorem ck_L_c_182 : ∀ i, i < 1 → (al_L_182.drop i).head?.all (fun alt => rf_run nm_cl nm_ct en_xs 8 xx_L kc_L cu_L po_L (some .boolean) 1 0 98 16364 (some mu_L_182) 5000 true 1358 alt) = true
  | 0, _ => ck_L_b_182_0
  | i + 1, h => absurd h (by omega)
theorem ck_L_n_182 : (al_L_182.drop 1).isEmpty = true := by decide +kernel
theorem ck_L_b_183_0 : (al_L_183.drop 0).head?.all (fun alt => rf_run nm_cl nm_ct en_xs 8 xx_L kc_L cu_L po_L (some .boolean) 1 0 98 16364 (some mu_L_183) 5000 true 1358 alt) = true := by decide +kernel
theorem ck_L_c_183 : ∀ i, i < 1 → (al_L_183.drop i).head?.all (fun alt => rf_run nm_cl nm_ct en_xs 8 xx_L kc_L cu_L po_L (some .boolean) 1 0 98 16364 (some mu_L_183) 5000 true 1358 alt) = true
  | 0, _ => ck_L_b_183_0
  | i + 1, h => absurd h (by omega)
theorem ck_L_n_183 : (al_L_183.drop 1).isEmpty = true := by decide +kernel
theorem ck_L_b_184_0 : (al_L_184.drop 0).head?.all (fun alt => rf_run nm_cl nm_ct en_xs 8 xx_L kc_L cu_L po_L (some .boolean) 1 0 98 16364 (some mu_L_184) 5000 true 1358 alt) = true := by decide +kernel
theorem ck_L_c_184 : ∀ i, i < 1 → (al_L_184.drop i).head?.all (fun alt => rf_run nm_cl nm_ct en_xs 8 xx_L kc_L cu_L po_L (some .boolean) 1 0 98 16364 (some mu_L_184) 5000 true 1358 alt) = true
  | 0, _ => ck_L_b_184_0
  | i + 1, h => absurd h (by omega)
theorem ck_L_n_184 : (al_L_184.drop 1).isEmpty = true := by decide +kernel
theorem ck_L_b_185_0 : (al_L_185.drop 0).head?.all (fun alt => rf_run nm_cl nm_ct en_xs 8 xx_L kc_L cu_L po_L (some .boolean) 1 0 98 16364 (some mu_L_185) 5000 true 1358 alt) = true := by decide +kernel
theorem ck_L_c_185 : ∀ i, i < 1 → (al_L_185.drop i).head?.all (fun alt => rf_run nm_cl nm_ct en_xs 8 xx_L kc_L cu_L po_L (some .boolean) 1 0 98 16364 (some mu_L_185) 5000 true 1358 alt) = true
  | 0, _ => ck_L_b_185_0
  | i + 1, h => absurd h (by omega)
theorem ck_L_n_185 : (al_L_185.drop 1).isEmpty = true := by decide +kernel
theorem ck_L_b_186_0 : (al_L_186.drop 0).head?.all (fun alt => rf_run nm_cl nm_ct en_xs 8 xx_L kc_L cu_L po_L (some .boolean) 1 0 98 16364 (some mu_L_186) 5000 true 1358 alt) = true := by decide +kernel
theorem ck_L_c_186 : ∀ i, i < 1 → (al_L_186.drop i).head?.all (fun alt => rf_run nm_cl nm_ct en_xs 8 xx_L kc_L cu_L po_L (some .boolean) 1 0 98 16364 (some mu_L_186) 5000 true 1358 alt) = true
  | 0, _ => ck_L_b_186_0
  | i + 1, h => absurd h (by omega)
theorem ck_L_n_186 : (al_L_186.drop 1).isEmpty = true := by decide +kernel
theorem ck_L_b_187_0 : (al_L_187.drop 0).head?.all (fun alt => rf_run nm_cl nm_ct en_xs 8 xx_L kc_L cu_L po_L (some .boolean) 1 0 98 16364 (some mu_L_187) 5000 true 1358 alt) = true := by decide +kernel
theorem ck_L_c_187 : ∀ i, i < 1 → (al_L_187.drop i).head?.all (fun alt => rf_run nm_cl nm_ct en_xs 8 xx_L kc_L cu_L po_L (some .boolean) 1 0 98 16364 (some mu_L_187) 5000 true 1358 alt) = true
  | 0, _ => ck_L_b_187_0
  | i + 1, h => absurd h (by omega)
theorem ck_L_n_187 : (al_L_187.drop 1).isEmpty = true := by decide +kernel
theorem ck_L_b_188_0 : (al_L_188.drop 0).head?.all (fun alt => rf_run nm_cl nm_ct en_xs 8 xx_L kc_L cu_L po_L (some .boolean) 1 0 98 16364 (some mu_L_188) 5000 true 1358 alt) = true := by decide +kernel
theorem ck_L_c_188 : ∀ i, i < 1 → (al_L_188.drop i).head?.all (fun alt => rf_run nm_cl nm_ct en_xs 8 xx_L kc_L cu_L po_L (some .boolean) 1 0 98 16364 (some mu_L_188) 5000 true 1358 alt) = true
  | 0, _ => ck_L_b_188_0
  | i + 1, h => absurd h (by omega)
theorem ck_L_n_188 : (al_L_188.drop 1).isEmpty = true := by decide +kernel
theorem ck_L_b_189_0 : (al_L_189.drop 0).head?.all (fun alt => rf_run nm_cl nm_ct en_xs 8 xx_L kc_L cu_L po_L (some .boolean) 1 0 98 16364 (some mu_L_189) 5000 true 1358 alt) = true := by decide +kernel
theorem ck_L_c_189 : ∀ i, i < 1 → (al_L_189.drop i).head?.all (fun alt => rf_run nm_cl nm_ct en_xs 8 xx_L kc_L cu_L po_L (some .boolean) 1 0 98 16364 (some mu_L_189) 5000 true 1358 alt) = true
  | 0, _ => ck_L_b_189_0
  | i + 1, h => absurd h (by omega)
theorem ck_L_n_189 : (al_L_189.drop 1).isEmpty = true := by decide +kernel
theorem ck_L_b_190_0 : (al_L_190.drop 0).head?.all (fun alt => rf_run nm_cl nm_ct en_xs 8 xx_L kc_L cu_L po_L (some .boolean) 1 0 98 16364 (some mu_L_190) 5000 true 1362 alt) = true := by decide +kernel
theorem ck_L_c_190 : ∀ i, i < 1 → (al_L_190.drop i).head?.all (fun alt => rf_run nm_cl nm_ct en_xs 8 xx_L kc_L cu_L po_L (some .boolean) 1 0 98 16364 (some mu_L_190) 5000 true 1362 alt) = true
  | 0, _ => ck_L_b_190_0
  | i + 1, h => absurd h (by omega)
theorem ck_L_n_190 : (al_L_190.drop 1).isEmpty = true := by decide +kernel
