/-! the law: its checks -/
theorem ck_L_b_203_0 : (al_L_203.drop 0).head?.all (fun alt => rf_run nm_cl nm_ct en_xs 8 xx_L kc_L cu_L po_L (some .boolean) 1 0 98 16364 (some mu_L_203) 5000 true 1391 alt) = true := by decide +kernel
theorem ck_L_c_203 : ∀ i, i < 1 → (al_L_203.drop i).head?.all (fun alt => rf_run nm_cl nm_ct en_xs 8 xx_L kc_L cu_L po_L (some .boolean) 1 0 98 16364 (some mu_L_203) 5000 true 1391 alt) = true
  | 0, _ => ck_L_b_203_0
  | i + 1, h => absurd h (by omega)
theorem ck_L_n_203 : (al_L_203.drop 1).isEmpty = true := by decide +kernel
theorem ck_L_b_204_0 : (al_L_204.drop 0).head?.all (fun alt => rf_run nm_cl nm_ct en_xs 8 xx_L kc_L cu_L po_L (some .boolean) 1 0 98 16364 (some mu_L_204) 5000 true 1391 alt) = true := by decide +kernel
theorem ck_L_c_204 : ∀ i, i < 1 → (al_L_204.drop i).head?.all (fun alt => rf_run nm_cl nm_ct en_xs 8 xx_L kc_L cu_L po_L (some .boolean) 1 0 98 16364 (some mu_L_204) 5000 true 1391 alt) = true
  | 0, _ => ck_L_b_204_0
  | i + 1, h => absurd h (by omega)
theorem ck_L_n_204 : (al_L_204.drop 1).isEmpty = true := by decide +kernel
theorem ck_L_b_205_0 : (al_L_205.drop 0).head?.all (fun alt => rf_run nm_cl nm_ct en_xs 8 xx_L kc_L cu_L po_L (some .boolean) 1 0 98 16364 (some mu_L_205) 5000 true 1391 alt) = true := by decide +kernel
theorem ck_L_c_205 : ∀ i, i < 1 → (al_L_205.drop i).head?.all (fun alt => rf_run nm_cl nm_ct en_xs 8 xx_L kc_L cu_L po_L (some .boolean) 1 0 98 16364 (some mu_L_205) 5000 true 1391 alt) = true
  | 0, _ => ck_L_b_205_0
  | i + 1, h => absurd h (by omega)
theorem ck_L_n_205 : (al_L_205.drop 1).isEmpty = true := by decide +kernel
theorem ck_L_b_206_0 : (al_L_206.drop 0).head?.all (fun alt => rf_run nm_cl nm_ct en_xs 8 xx_L kc_L cu_L po_L (some .boolean) 1 0 98 16364 (some mu_L_206) 5000 true 1391 alt) = true := by decide +kernel
theorem ck_L_c_206 : ∀ i, i < 1 → (al_L_206.drop i).head?.all (fun alt => rf_run nm_cl nm_ct en_xs 8 xx_L kc_L cu_L po_L (some .boolean) 1 0 98 16364 (some mu_L_206) 5000 true 1391 alt) = true
  | 0, _ => ck_L_b_206_0
  | i + 1, h => absurd h (by omega)
theorem ck_L_n_206 : (al_L_206.drop 1).isEmpty = true := by decide +kernel
theorem ck_L_b_207_0 : (al_L_207.drop 0).head?.all (fun alt => rf_run nm_cl nm_ct en_xs 8 xx_L kc_L cu_L po_L (some .boolean) 1 0 98 16364 (some mu_L_207) 5000 true 1391 alt) = true := by decide +kernel
theorem ck_L_c_207 : ∀ i, i < 1 → (al_L_207.drop i).head?.all (fun alt => rf_run nm_cl nm_ct en_xs 8 xx_L kc_L cu_L po_L (some .boolean) 1 0 98 16364 (some mu_L_207) 5000 true 1391 alt) = true
  | 0, _ => ck_L_b_207_0
  | i + 1, h => absurd h (by omega)
theorem ck_L_n_207 : (al_L_207.drop 1).isEmpty = true := by decide +kernel
theorem ck_L_b_208_0 : (al_L_208.drop 0).head?.all (fun alt => rf_run nm_cl nm_ct en_xs 8 xx_L kc_L cu_L po_L (some .boolean) 1 0 98 16364 (some mu_L_208) 5000 true 1391 alt) = true := by decide +kernel
theorem ck_L_c_208 : ∀ i, i < 1 → (al_L_208.drop i).head?.all (fun alt => rf_run nm_cl nm_ct en_xs 8 xx_L kc_L cu_L po_L (some .boolean) 1 0 98 16364 (some mu_L_208) 5000 true 1391 alt) = true
  | 0, _ => ck_L_b_208_0
  | i + 1, h => absurd h (by omega)
theorem ck_L_n_208 : (al_L_208.drop 1).isEmpty = true := by decide +kernel
theorem ck_L_b_209_0 : (al_L_209.drop 0).head?.all (fun alt => rf_run nm_cl nm_ct en_xs 8 xx_L kc_L cu_L po_L (some .boolean) 1 0 98 16364 (some mu_L_209) 5000 true 1391 alt) = true := by decide +kernel
theorem ck_L_c_209 : ∀ i, i < 1 → (al_L_209.drop i).head?.all (fun alt => rf_run nm_cl nm_ct en_xs 8 xx_L kc_L cu_L po_L (some .boolean) 1 0 98 16364 (some mu_L_209) 5000 true 1391 alt) = true
  | 0, _ => ck_L_b_209_0
  | i + 1, h => absurd h (by omega)
theorem ck_L_n_209 : (al_L_209.drop 1).isEmpty = true := by decide +kernel
theorem ck_L_b_210_0 : (al_L_210.drop 0).head?.all (fun alt => rf_run nm_cl nm_ct en_xs 8 xx_L kc_L cu_L po_L (some .boolean) 1 0 98 16364 (some mu_L_210) 5000 true 1391 alt) = true := by decide +kernel
theorem ck_L_c_210 : ∀ i, i < 1 → (al_L_210.drop i).head?.all (fun alt => rf_run nm_cl nm_ct en_xs 8 xx_L kc_L cu_L po_L (some .boolean) 1 0 98 16364 (some mu_L_210) 5000 true 1391 alt) = true
  | 0, _ => ck_L_b_210_0
  | i + 1, h => absurd h (by omega)
theorem ck_L_n_210 : (al_L_210.drop 1).isEmpty = true := by decide +kernel
theorem ck_L_b_211_0 : (al_L_211.drop 0).head?.all (fun alt => rf_run nm_cl nm_ct en_xs 8 xx_L kc_L cu_L po_L (some .boolean) 1 0 98 16364 (some mu_L_211) 5000 true 1391 alt) = true := by decide +kernel
theorem ck_L_c_211 : ∀ i, i < 1 → (al_L_211.drop i).head?.all (fun alt => rf_run nm_cl nm_ct en_xs 8 xx_L kc_L cu_L po_L (some .boolean) 1 0 98 16364 (some mu_L_211) 5000 true 1391 alt) = true
  | 0, _ => ck_L_b_211_0
  | i + 1, h => absurd h (by omega)
theorem ck_L_n_211 : (al_L_211.drop 1).isEmpty = true := by decide +kernel
theorem ck_L_b_212_0 : (al_L_212.drop 0).head?.all (fun alt => rf_run nm_cl nm_ct en_xs 8 xx_L kc_L cu_L po_L (some .boolean) 1 0 98 16364 (some mu_L_212) 5000 true 1391 alt) = true := by decide +kernel
theorem ck_L_c_212 : ∀ i, i < 1 → (al_L_212.drop i).head?.all (fun alt => rf_run nm_cl nm_ct en_xs 8 xx_L kc_L cu_L po_L (some .boolean) 1 0 98 16364 (some mu_L_212) 5000 true 1391 alt) = true
  | 0, _ => ck_L_b_212_0
  | i + 1, h => absurd h (by omega)
theorem ck_L_n_212 : (al_L_212.drop 1).isEmpty = true := by decide +kernel
theorem ck_L_b_213_0 : (al_L_213.drop 0).head?.all (fun alt => rf_run nm_cl nm_ct en_xs 8 xx_L kc_L cu_L po_L (some .boolean) 1 0 98 16364 (some mu_L_213) 5000 true 1391 alt) = true := by decide +kernel
theorem ck_L_c_213 : ∀ i, i < 1 → (al_L_213.drop i).head?.all (fun alt => rf_run nm_cl nm_ct en_xs 8 xx_L kc_L cu_L po_L (some .boolean) 1 0 98 16364 (some mu_L_213) 5000 true 1391 alt) = true
  | 0, _ => ck_L_b_213_0
  | i + 1, h => absurd h (by omega)
theorem ck_L_n_213 : (al_L_213.drop 1).isEmpty = true := by decide +kernel
theorem ck_L_b_214_0 : (al_L_214.drop 0).head?.all (fun alt => rf_run nm_cl nm_ct en_xs 8 xx_L kc_L cu_L po_L (some .boolean) 1 0 98 16364 (some mu_L_214) 5000 true 1391 alt) = true := by decide +kernel
theorem ck_L_c_214 : ∀ i, i < 1 → (al_L_214.drop i).head?.all (fun alt => rf_run nm_cl nm_ct en_xs 8 xx_L kc_L cu_L po_L (some .boolean) 1 0 98 16364 (some mu_L_214) 5000 true 1391 alt) = true
  | 0, _ => ck_L_b_214_0
  | i + 1, h => absurd h (by omega)
theorem ck_L_n_214 : (al_L_214.drop 1).isEmpty = true := by decide +kernel
