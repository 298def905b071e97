/-! the law: its checks -/
theorem ck_L_b_155_0 : (al_L_155.drop 0).head?.all (fun alt => rf_run nm_cl nm_ct en_xs 8 xx_L kc_L cu_L po_L (some .boolean) 1 0 98 16364 (some mu_L_155) 5000 true 1252 alt) = true := by decide +kernel
theorem ck_L_c_155 : ∀ i, i < 1 → (al_L_155.drop i).head?.all (fun alt => rf_run nm_cl nm_ct en_xs 8 xx_L kc_L cu_L po_L (some .boolean) 1 0 98 16364 (some mu_L_155) 5000 true 1252 alt) = true
  | 0, _ => ck_L_b_155_0
  | i + 1, h => absurd h (by omega)
theorem ck_L_n_155 : (al_L_155.drop 1).isEmpty = true := by decide +kernel
theorem ck_L_b_156_0 : (al_L_156.drop 0).head?.all (fun alt => rf_run nm_cl nm_ct en_xs 8 xx_L kc_L cu_L po_L (some .boolean) 1 0 98 16364 (some mu_L_156) 5000 true 1256 alt) = true := by decide +kernel
theorem ck_L_c_156 : ∀ i, i < 1 → (al_L_156.drop i).head?.all (fun alt => rf_run nm_cl nm_ct en_xs 8 xx_L kc_L cu_L po_L (some .boolean) 1 0 98 16364 (some mu_L_156) 5000 true 1256 alt) = true
  | 0, _ => ck_L_b_156_0
  | i + 1, h => absurd h (by omega)
theorem ck_L_n_156 : (al_L_156.drop 1).isEmpty = true := by decide +kernel
theorem ck_L_b_157_0 : (al_L_157.drop 0).head?.all (fun alt => rf_run nm_cl nm_ct en_xs 8 xx_L kc_L cu_L po_L (some .boolean) 1 0 98 16364 (some mu_L_157) 5000 true 1290 alt) = true := by decide +kernel
theorem ck_L_c_157 : ∀ i, i < 1 → (al_L_157.drop i).head?.all (fun alt => rf_run nm_cl nm_ct en_xs 8 xx_L kc_L cu_L po_L (some .boolean) 1 0 98 16364 (some mu_L_157) 5000 true 1290 alt) = true
  | 0, _ => ck_L_b_157_0
  | i + 1, h => absurd h (by omega)
theorem ck_L_n_157 : (al_L_157.drop 1).isEmpty = true := by decide +kernel
theorem ck_L_b_158_0 : (al_L_158.drop 0).head?.all (fun alt => rf_run nm_cl nm_ct en_xs 8 xx_L kc_L cu_L po_L (some .boolean) 1 0 98 16364 (some mu_L_158) 5000 true 1290 alt) = true := by decide +kernel
theorem ck_L_c_158 : ∀ i, i < 1 → (al_L_158.drop i).head?.all (fun alt => rf_run nm_cl nm_ct en_xs 8 xx_L kc_L cu_L po_L (some .boolean) 1 0 98 16364 (some mu_L_158) 5000 true 1290 alt) = true
  | 0, _ => ck_L_b_158_0
  | i + 1, h => absurd h (by omega)
theorem ck_L_n_158 : (al_L_158.drop 1).isEmpty = true := by decide +kernel
theorem ck_L_b_159_0 : (al_L_159.drop 0).head?.all (fun alt => rf_run nm_cl nm_ct en_xs 8 xx_L kc_L cu_L po_L (some .boolean) 1 0 98 16364 (some mu_L_159) 5000 true 1290 alt) = true := by decide +kernel
theorem ck_L_c_159 : ∀ i, i < 1 → (al_L_159.drop i).head?.all (fun alt => rf_run nm_cl nm_ct en_xs 8 xx_L kc_L cu_L po_L (some .boolean) 1 0 98 16364 (some mu_L_159) 5000 true 1290 alt) = true
  | 0, _ => ck_L_b_159_0
  | i + 1, h => absurd h (by omega)
theorem ck_L_n_159 : (al_L_159.drop 1).isEmpty = true := by decide +kernel
theorem ck_L_b_160_0 : (al_L_160.drop 0).head?.all (fun alt => rf_run nm_cl nm_ct en_xs 8 xx_L kc_L cu_L po_L (some .boolean) 1 0 98 16364 (some mu_L_160) 5000 true 1290 alt) = true := by decide +kernel
theorem ck_L_c_160 : ∀ i, i < 1 → (al_L_160.drop i).head?.all (fun alt => rf_run nm_cl nm_ct en_xs 8 xx_L kc_L cu_L po_L (some .boolean) 1 0 98 16364 (some mu_L_160) 5000 true 1290 alt) = true
  | 0, _ => ck_L_b_160_0
  | i + 1, h => absurd h (by omega)
theorem ck_L_n_160 : (al_L_160.drop 1).isEmpty = true := by decide +kernel
theorem ck_L_b_161_0 : (al_L_161.drop 0).head?.all (fun alt => rf_run nm_cl nm_ct en_xs 8 xx_L kc_L cu_L po_L (some .boolean) 1 0 98 16364 (some mu_L_161) 5000 true 1290 alt) = true := by decide +kernel
theorem ck_L_c_161 : ∀ i, i < 1 → (al_L_161.drop i).head?.all (fun alt => rf_run nm_cl nm_ct en_xs 8 xx_L kc_L cu_L po_L (some .boolean) 1 0 98 16364 (some mu_L_161) 5000 true 1290 alt) = true
  | 0, _ => ck_L_b_161_0
  | i + 1, h => absurd h (by omega)
theorem ck_L_n_161 : (al_L_161.drop 1).isEmpty = true := by decide +kernel
theorem ck_L_b_162_0 : (al_L_162.drop 0).head?.all (fun alt => rf_run nm_cl nm_ct en_xs 8 xx_L kc_L cu_L po_L (some .boolean) 1 0 98 16364 (some mu_L_162) 5000 true 1290 alt) = true := by decide +kernel
theorem ck_L_c_162 : ∀ i, i < 1 → (al_L_162.drop i).head?.all (fun alt => rf_run nm_cl nm_ct en_xs 8 xx_L kc_L cu_L po_L (some .boolean) 1 0 98 16364 (some mu_L_162) 5000 true 1290 alt) = true
  | 0, _ => ck_L_b_162_0
  | i + 1, h => absurd h (by omega)
theorem ck_L_n_162 : (al_L_162.drop 1).isEmpty = true := by decide +kernel
theorem ck_L_b_163_0 : (al_L_163.drop 0).head?.all (fun alt => rf_run nm_cl nm_ct en_xs 8 xx_L kc_L cu_L po_L (some .boolean) 1 0 98 16364 (some mu_L_163) 5000 true 1290 alt) = true := by decide +kernel
theorem ck_L_c_163 : ∀ i, i < 1 → (al_L_163.drop i).head?.all (fun alt => rf_run nm_cl nm_ct en_xs 8 xx_L kc_L cu_L po_L (some .boolean) 1 0 98 16364 (some mu_L_163) 5000 true 1290 alt) = true
  | 0, _ => ck_L_b_163_0
  | i + 1, h => absurd h (by omega)
theorem ck_L_n_163 : (al_L_163.drop 1).isEmpty = true := by decide +kernel
theorem ck_L_b_164_0 : (al_L_164.drop 0).head?.all (fun alt => rf_run nm_cl nm_ct en_xs 8 xx_L kc_L cu_L po_L (some .boolean) 1 0 98 16364 (some mu_L_164) 5000 true 1290 alt) = true := by decide +kernel
theorem ck_L_c_164 : ∀ i, i < 1 → (al_L_164.drop i).head?.all (fun alt => rf_run nm_cl nm_ct en_xs 8 xx_L kc_L cu_L po_L (some .boolean) 1 0 98 16364 (some mu_L_164) 5000 true 1290 alt) = true
  | 0, _ => ck_L_b_164_0
  | i + 1, h => absurd h (by omega)
theorem ck_L_n_164 : (al_L_164.drop 1).isEmpty = true := by decide +kernel
theorem ck_L_b_165_0 : (al_L_165.drop 0).head?.all (fun alt => rf_run nm_cl nm_ct en_xs 8 xx_L kc_L cu_L po_L (some .boolean) 1 0 98 16364 (some mu_L_165) 5000 true 1290 alt) = true := by decide +kernel
theorem ck_L_c_165 : ∀ i, i < 1 → (al_L_165.drop i).head?.all (fun alt => rf_run nm_cl nm_ct en_xs 8 xx_L kc_L cu_L po_L (some .boolean) 1 0 98 16364 (some mu_L_165) 5000 true 1290 alt) = true
  | 0, _ => ck_L_b_165_0
  | i + 1, h => absurd h (by omega)
theorem ck_L_n_165 : (al_L_165.drop 1).isEmpty = true := by decide +kernel
theorem ck_L_b_166_0 : (al_L_166.drop 0).head?.all (fun alt => rf_run nm_cl nm_ct en_xs 8 xx_L kc_L cu_L po_L (some .boolean) 1 0 98 16364 (some mu_L_166) 5000 true 1290 alt) = true := by decide +kernel
theorem ck_L_c_166 : ∀ i, i < 1 → (al_L_166.drop i).head?.all (fun alt => rf_run nm_cl nm_ct en_xs 8 xx_L kc_L cu_L po_L (some .boolean) 1 0 98 16364 (some mu_L_166) 5000 true 1290 alt) = true
  | 0, _ => ck_L_b_166_0
  | i + 1, h => absurd h (by omega)
theorem ck_L_n_166 : (al_L_166.drop 1).isEmpty = true := by decide +kernel
