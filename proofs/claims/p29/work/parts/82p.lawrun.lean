/-! the law: its checks -/
theorem ck_L_b_191_0 : (al_L_191.drop 0).head?.all (fun alt => rf_run nm_cl nm_ct en_xs 8 xx_L kc_L cu_L po_L (some .boolean) 1 0 98 16364 (some mu_L_191) 5000 true 1391 alt) = true := by decide +kernel
theorem ck_L_c_191 : ∀ i, i < 1 → (al_L_191.drop i).head?.all (fun alt => rf_run nm_cl nm_ct en_xs 8 xx_L kc_L cu_L po_L (some .boolean) 1 0 98 16364 (some mu_L_191) 5000 true 1391 alt) = true
  | 0, _ => ck_L_b_191_0
  | i + 1, h => absurd h (by omega)
theorem ck_L_n_191 : (al_L_191.drop 1).isEmpty = true := by decide +kernel
theorem ck_L_b_192_0 : (al_L_192.drop 0).head?.all (fun alt => rf_run nm_cl nm_ct en_xs 8 xx_L kc_L cu_L po_L (some .boolean) 1 0 98 16364 (some mu_L_192) 5000 true 1391 alt) = true := by decide +kernel
theorem ck_L_c_192 : ∀ i, i < 1 → (al_L_192.drop i).head?.all (fun alt => rf_run nm_cl nm_ct en_xs 8 xx_L kc_L cu_L po_L (some .boolean) 1 0 98 16364 (some mu_L_192) 5000 true 1391 alt) = true
  | 0, _ => ck_L_b_192_0
  | i + 1, h => absurd h (by omega)
theorem ck_L_n_192 : (al_L_192.drop 1).isEmpty = true := by decide +kernel
theorem ck_L_b_193_0 : (al_L_193.drop 0).head?.all (fun alt => rf_run nm_cl nm_ct en_xs 8 xx_L kc_L cu_L po_L (some .boolean) 1 0 98 16364 (some mu_L_193) 5000 true 1391 alt) = true := by decide +kernel
theorem ck_L_c_193 : ∀ i, i < 1 → (al_L_193.drop i).head?.all (fun alt => rf_run nm_cl nm_ct en_xs 8 xx_L kc_L cu_L po_L (some .boolean) 1 0 98 16364 (some mu_L_193) 5000 true 1391 alt) = true
  | 0, _ => ck_L_b_193_0
  | i + 1, h => absurd h (by omega)
theorem ck_L_n_193 : (al_L_193.drop 1).isEmpty = true := by decide +kernel
theorem ck_L_b_194_0 : (al_L_194.drop 0).head?.all (fun alt => rf_run nm_cl nm_ct en_xs 8 xx_L kc_L cu_L po_L (some .boolean) 1 0 98 16364 (some mu_L_194) 5000 true 1391 alt) = true := by decide +kernel
theorem ck_L_c_194 : ∀ i, i < 1 → (al_L_194.drop i).head?.all (fun alt => rf_run nm_cl nm_ct en_xs 8 xx_L kc_L cu_L po_L (some .boolean) 1 0 98 16364 (some mu_L_194) 5000 true 1391 alt) = true
  | 0, _ => ck_L_b_194_0
  | i + 1, h => absurd h (by omega)
theorem ck_L_n_194 : (al_L_194.drop 1).isEmpty = true := by decide +kernel
theorem ck_L_b_195_0 : (al_L_195.drop 0).head?.all (fun alt => rf_run nm_cl nm_ct en_xs 8 xx_L kc_L cu_L po_L (some .boolean) 1 0 98 16364 (some mu_L_195) 5000 true 1391 alt) = true := by decide +kernel
theorem ck_L_c_195 : ∀ i, i < 1 → (al_L_195.drop i).head?.all (fun alt => rf_run nm_cl nm_ct en_xs 8 xx_L kc_L cu_L po_L (some .boolean) 1 0 98 16364 (some mu_L_195) 5000 true 1391 alt) = true
  | 0, _ => ck_L_b_195_0
  | i + 1, h => absurd h (by omega)
theorem ck_L_n_195 : (al_L_195.drop 1).isEmpty = true := by decide +kernel
theorem ck_L_b_196_0 : (al_L_196.drop 0).head?.all (fun alt => rf_run nm_cl nm_ct en_xs 8 xx_L kc_L cu_L po_L (some .boolean) 1 0 98 16364 (some mu_L_196) 5000 true 1391 alt) = true := by decide +kernel
theorem ck_L_c_196 : ∀ i, i < 1 → (al_L_196.drop i).head?.all (fun alt => rf_run nm_cl nm_ct en_xs 8 xx_L kc_L cu_L po_L (some .boolean) 1 0 98 16364 (some mu_L_196) 5000 true 1391 alt) = true
  | 0, _ => ck_L_b_196_0
  | i + 1, h => absurd h (by omega)
theorem ck_L_n_196 : (al_L_196.drop 1).isEmpty = true := by decide +kernel
theorem ck_L_b_197_0 : (al_L_197.drop 0).head?.all (fun alt => rf_run nm_cl nm_ct en_xs 8 xx_L kc_L cu_L po_L (some .boolean) 1 0 98 16364 (some mu_L_197) 5000 true 1391 alt) = true := by decide +kernel
theorem ck_L_c_197 : ∀ i, i < 1 → (al_L_197.drop i).head?.all (fun alt => rf_run nm_cl nm_ct en_xs 8 xx_L kc_L cu_L po_L (some .boolean) 1 0 98 16364 (some mu_L_197) 5000 true 1391 alt) = true
  | 0, _ => ck_L_b_197_0
  | i + 1, h => absurd h (by omega)
theorem ck_L_n_197 : (al_L_197.drop 1).isEmpty = true := by decide +kernel
theorem ck_L_b_198_0 : (al_L_198.drop 0).head?.all (fun alt => rf_run nm_cl nm_ct en_xs 8 xx_L kc_L cu_L po_L (some .boolean) 1 0 98 16364 (some mu_L_198) 5000 true 1391 alt) = true := by decide +kernel
theorem ck_L_c_198 : ∀ i, i < 1 → (al_L_198.drop i).head?.all (fun alt => rf_run nm_cl nm_ct en_xs 8 xx_L kc_L cu_L po_L (some .boolean) 1 0 98 16364 (some mu_L_198) 5000 true 1391 alt) = true
  | 0, _ => ck_L_b_198_0
  | i + 1, h => absurd h (by omega)
theorem ck_L_n_198 : (al_L_198.drop 1).isEmpty = true := by decide +kernel
theorem ck_L_b_199_0 : (al_L_199.drop 0).head?.all (fun alt => rf_run nm_cl nm_ct en_xs 8 xx_L kc_L cu_L po_L (some .boolean) 1 0 98 16364 (some mu_L_199) 5000 true 1391 alt) = true := by decide +kernel
theorem ck_L_c_199 : ∀ i, i < 1 → (al_L_199.drop i).head?.all (fun alt => rf_run nm_cl nm_ct en_xs 8 xx_L kc_L cu_L po_L (some .boolean) 1 0 98 16364 (some mu_L_199) 5000 true 1391 alt) = true
  | 0, _ => ck_L_b_199_0
  | i + 1, h => absurd h (by omega)
theorem ck_L_n_199 : (al_L_199.drop 1).isEmpty = true := by decide +kernel
theorem ck_L_b_200_0 : (al_L_200.drop 0).head?.all (fun alt => rf_run nm_cl nm_ct en_xs 8 xx_L kc_L cu_L po_L (some .boolean) 1 0 98 16364 (some mu_L_200) 5000 true 1391 alt) = true := by decide +kernel
theorem ck_L_c_200 : ∀ i, i < 1 → (al_L_200.drop i).head?.all (fun alt => rf_run nm_cl nm_ct en_xs 8 xx_L kc_L cu_L po_L (some .boolean) 1 0 98 16364 (some mu_L_200) 5000 true 1391 alt) = true
  | 0, _ => ck_L_b_200_0
  | i + 1, h => absurd h (by omega)
theorem ck_L_n_200 : (al_L_200.drop 1).isEmpty = true := by decide +kernel
theorem ck_L_b_201_0 : (al_L_201.drop 0).head?.all (fun alt => rf_run nm_cl nm_ct en_xs 8 xx_L kc_L cu_L po_L (some .boolean) 1 0 98 16364 (some mu_L_201) 5000 true 1391 alt) = true := by decide +kernel
theorem ck_L_c_201 : ∀ i, i < 1 → (al_L_201.drop i).head?.all (fun alt => rf_run nm_cl nm_ct en_xs 8 xx_L kc_L cu_L po_L (some .boolean) 1 0 98 16364 (some mu_L_201) 5000 true 1391 alt) = true
  | 0, _ => ck_L_b_201_0
  | i + 1, h => absurd h (by omega)
theorem ck_L_n_201 : (al_L_201.drop 1).isEmpty = true := by decide +kernel
theorem ck_L_b_202_0 : (al_L_202.drop 0).head?.all (fun alt => rf_run nm_cl nm_ct en_xs 8 xx_L kc_L cu_L po_L (some .boolean) 1 0 98 16364 (some mu_L_202) 5000 true 1391 alt) = true := by decide +kernel
theorem ck_L_c_202 : ∀ i, i < 1 → (al_L_202.drop i).head?.all (fun alt => rf_run nm_cl nm_ct en_xs 8 xx_L kc_L cu_L po_L (some .boolean) 1 0 98 16364 (some mu_L_202) 5000 true 1391 alt) = true
  | 0, _ => ck_L_b_202_0
  | i + 1, h => absurd h (by omega)
theorem ck_L_n_202 : (al_L_202.drop 1).isEmpty = true := by decide +kernel
