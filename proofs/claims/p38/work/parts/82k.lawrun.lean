/-! the law: its checks -/
theorem ck_L_b_93_0 : (al_L_93.drop 0).head?.all (fun alt => rf_run nm_cl nm_ct en_xs 8 xx_L kc_L cu_L po_L (some .boolean) 1 0 98 16364 (some mu_L_93) 5000 true 1329 alt) = true := by decide +kernel
theorem ck_L_c_93 : ∀ i, i < 1 → (al_L_93.drop i).head?.all (fun alt => rf_run nm_cl nm_ct en_xs 8 xx_L kc_L cu_L po_L (some .boolean) 1 0 98 16364 (some mu_L_93) 5000 true 1329 alt) = true
  | 0, _ => ck_L_b_93_0
  | i + 1, h => absurd h (by omega)
theorem ck_L_n_93 : (al_L_93.drop 1).isEmpty = true := by decide +kernel
theorem ck_L_b_94_0 : (al_L_94.drop 0).head?.all (fun alt => rf_run nm_cl nm_ct en_xs 8 xx_L kc_L cu_L po_L (some .boolean) 1 0 98 16364 (some mu_L_94) 5000 true 1362 alt) = true := by decide +kernel
theorem ck_L_c_94 : ∀ i, i < 1 → (al_L_94.drop i).head?.all (fun alt => rf_run nm_cl nm_ct en_xs 8 xx_L kc_L cu_L po_L (some .boolean) 1 0 98 16364 (some mu_L_94) 5000 true 1362 alt) = true
  | 0, _ => ck_L_b_94_0
  | i + 1, h => absurd h (by omega)
theorem ck_L_n_94 : (al_L_94.drop 1).isEmpty = true := by decide +kernel
theorem ck_L_b_95_0 : (al_L_95.drop 0).head?.all (fun alt => rf_run nm_cl nm_ct en_xs 8 xx_L kc_L cu_L po_L (some .boolean) 1 0 98 16364 (some mu_L_95) 5000 true 1391 alt) = true := by decide +kernel
theorem ck_L_c_95 : ∀ i, i < 1 → (al_L_95.drop i).head?.all (fun alt => rf_run nm_cl nm_ct en_xs 8 xx_L kc_L cu_L po_L (some .boolean) 1 0 98 16364 (some mu_L_95) 5000 true 1391 alt) = true
  | 0, _ => ck_L_b_95_0
  | i + 1, h => absurd h (by omega)
theorem ck_L_n_95 : (al_L_95.drop 1).isEmpty = true := by decide +kernel
theorem ck_L_b_96_0 : (al_L_96.drop 0).head?.all (fun alt => rf_run nm_cl nm_ct en_xs 8 xx_L kc_L cu_L po_L (some .boolean) 1 0 98 16364 (some mu_L_96) 5000 true 1391 alt) = true := by decide +kernel
theorem ck_L_c_96 : ∀ i, i < 1 → (al_L_96.drop i).head?.all (fun alt => rf_run nm_cl nm_ct en_xs 8 xx_L kc_L cu_L po_L (some .boolean) 1 0 98 16364 (some mu_L_96) 5000 true 1391 alt) = true
  | 0, _ => ck_L_b_96_0
  | i + 1, h => absurd h (by omega)
theorem ck_L_n_96 : (al_L_96.drop 1).isEmpty = true := by decide +kernel
theorem ck_L_b_97_0 : (al_L_97.drop 0).head?.all (fun alt => rf_run nm_cl nm_ct en_xs 8 xx_L kc_L cu_L po_L (some .boolean) 1 0 98 16364 (some mu_L_97) 5000 true 1391 alt) = true := by decide +kernel
theorem ck_L_c_97 : ∀ i, i < 1 → (al_L_97.drop i).head?.all (fun alt => rf_run nm_cl nm_ct en_xs 8 xx_L kc_L cu_L po_L (some .boolean) 1 0 98 16364 (some mu_L_97) 5000 true 1391 alt) = true
  | 0, _ => ck_L_b_97_0
  | i + 1, h => absurd h (by omega)
theorem ck_L_n_97 : (al_L_97.drop 1).isEmpty = true := by decide +kernel
theorem ck_L_b_98_0 : (al_L_98.drop 0).head?.all (fun alt => rf_run nm_cl nm_ct en_xs 8 xx_L kc_L cu_L po_L (some .boolean) 1 0 98 16364 (some mu_L_98) 5000 true 1391 alt) = true := by decide +kernel
theorem ck_L_c_98 : ∀ i, i < 1 → (al_L_98.drop i).head?.all (fun alt => rf_run nm_cl nm_ct en_xs 8 xx_L kc_L cu_L po_L (some .boolean) 1 0 98 16364 (some mu_L_98) 5000 true 1391 alt) = true
  | 0, _ => ck_L_b_98_0
  | i + 1, h => absurd h (by omega)
theorem ck_L_n_98 : (al_L_98.drop 1).isEmpty = true := by decide +kernel
theorem ck_L_b_99_0 : (al_L_99.drop 0).head?.all (fun alt => rf_run nm_cl nm_ct en_xs 8 xx_L kc_L cu_L po_L (some .boolean) 1 0 98 16364 (some mu_L_99) 5000 true 1391 alt) = true := by decide +kernel
theorem ck_L_c_99 : ∀ i, i < 1 → (al_L_99.drop i).head?.all (fun alt => rf_run nm_cl nm_ct en_xs 8 xx_L kc_L cu_L po_L (some .boolean) 1 0 98 16364 (some mu_L_99) 5000 true 1391 alt) = true
  | 0, _ => ck_L_b_99_0
  | i + 1, h => absurd h (by omega)
theorem ck_L_n_99 : (al_L_99.drop 1).isEmpty = true := by decide +kernel
theorem ck_L_b_100_0 : (al_L_100.drop 0).head?.all (fun alt => rf_run nm_cl nm_ct en_xs 8 xx_L kc_L cu_L po_L (some .boolean) 1 0 98 16364 (some mu_L_100) 5000 true 1391 alt) = true := by decide +kernel
theorem ck_L_c_100 : ∀ i, i < 1 → (al_L_100.drop i).head?.all (fun alt => rf_run nm_cl nm_ct en_xs 8 xx_L kc_L cu_L po_L (some .boolean) 1 0 98 16364 (some mu_L_100) 5000 true 1391 alt) = true
  | 0, _ => ck_L_b_100_0
  | i + 1, h => absurd h (by omega)
theorem ck_L_n_100 : (al_L_100.drop 1).isEmpty = true := by decide +kernel
theorem ck_L_b_101_0 : (al_L_101.drop 0).head?.all (fun alt => rf_run nm_cl nm_ct en_xs 8 xx_L kc_L cu_L po_L (some .boolean) 1 0 98 16364 (some mu_L_101) 5000 true 1391 alt) = true := by decide +kernel
theorem ck_L_c_101 : ∀ i, i < 1 → (al_L_101.drop i).head?.all (fun alt => rf_run nm_cl nm_ct en_xs 8 xx_L kc_L cu_L po_L (some .boolean) 1 0 98 16364 (some mu_L_101) 5000 true 1391 alt) = true
  | 0, _ => ck_L_b_101_0
  | i + 1, h => absurd h (by omega)
theorem ck_L_n_101 : (al_L_101.drop 1).isEmpty = true := by decide +kernel
theorem ck_L_b_102_0 : (al_L_102.drop 0).head?.all (fun alt => rf_run nm_cl nm_ct en_xs 8 xx_L kc_L cu_L po_L (some .boolean) 1 0 98 16364 (some mu_L_102) 5000 true 1391 alt) = true := by decide +kernel
theorem ck_L_c_102 : ∀ i, i < 1 → (al_L_102.drop i).head?.all (fun alt => rf_run nm_cl nm_ct en_xs 8 xx_L kc_L cu_L po_L (some .boolean) 1 0 98 16364 (some mu_L_102) 5000 true 1391 alt) = true
  | 0, _ => ck_L_b_102_0
  | i + 1, h => absurd h (by omega)
theorem ck_L_n_102 : (al_L_102.drop 1).isEmpty = true := by decide +kernel
theorem ck_L_b_103_0 : (al_L_103.drop 0).head?.all (fun alt => rf_run nm_cl nm_ct en_xs 8 xx_L kc_L cu_L po_L (some .boolean) 1 0 98 16364 (some mu_L_103) 5000 true 1391 alt) = true := by decide +kernel
theorem ck_L_c_103 : ∀ i, i < 1 → (al_L_103.drop i).head?.all (fun alt => rf_run nm_cl nm_ct en_xs 8 xx_L kc_L cu_L po_L (some .boolean) 1 0 98 16364 (some mu_L_103) 5000 true 1391 alt) = true
  | 0, _ => ck_L_b_103_0
  | i + 1, h => absurd h (by omega)
theorem ck_L_n_103 : (al_L_103.drop 1).isEmpty = true := by decide +kernel
theorem ck_L_b_104_0 : (al_L_104.drop 0).head?.all (fun alt => rf_run nm_cl nm_ct en_xs 8 xx_L kc_L cu_L po_L (some .boolean) 1 0 98 16364 (some mu_L_104) 5000 true 1391 alt) = true := by decide +kernel
theorem ck_L_c_104 : ∀ i, i < 1 → (al_L_104.drop i).head?.all (fun alt => rf_run nm_cl nm_ct en_xs 8 xx_L kc_L cu_L po_L (some .boolean) 1 0 98 16364 (some mu_L_104) 5000 true 1391 alt) = true
  | 0, _ => ck_L_b_104_0
  | i + 1, h => absurd h (by omega)
theorem ck_L_n_104 : (al_L_104.drop 1).isEmpty = true := by decide +kernel
