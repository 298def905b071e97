/-! the law: its checks -/
theorem ck_L_b_97_0 : (al_L_97.drop 0).head?.all (fun alt => rf_run nm_cl nm_ct en_xs 8 xx_L kc_L cu_L po_L (some .boolean) 1 0 98 16364 (some mu_L_97) 5000 true 1157 alt) = true := by decide +kernel
theorem ck_L_c_97 : ∀ i, i < 1 → (al_L_97.drop i).head?.all (fun alt => rf_run nm_cl nm_ct en_xs 8 xx_L kc_L cu_L po_L (some .boolean) 1 0 98 16364 (some mu_L_97) 5000 true 1157 alt) = true
  | 0, _ => ck_L_b_97_0
  | i + 1, h => absurd h (by omega)
theorem ck_L_n_97 : (al_L_97.drop 1).isEmpty = true := by decide +kernel
theorem ck_L_b_98_0 : (al_L_98.drop 0).head?.all (fun alt => rf_run nm_cl nm_ct en_xs 8 xx_L kc_L cu_L po_L (some .boolean) 1 0 98 16364 (some mu_L_98) 5000 true 1180 alt) = true := by decide +kernel
theorem ck_L_c_98 : ∀ i, i < 1 → (al_L_98.drop i).head?.all (fun alt => rf_run nm_cl nm_ct en_xs 8 xx_L kc_L cu_L po_L (some .boolean) 1 0 98 16364 (some mu_L_98) 5000 true 1180 alt) = true
  | 0, _ => ck_L_b_98_0
  | i + 1, h => absurd h (by omega)
theorem ck_L_n_98 : (al_L_98.drop 1).isEmpty = true := by decide +kernel
theorem ck_L_b_99_0 : (al_L_99.drop 0).head?.all (fun alt => rf_run nm_cl nm_ct en_xs 8 xx_L kc_L cu_L po_L (some .boolean) 1 0 98 16364 (some mu_L_99) 5000 true 1191 alt) = true := by decide +kernel
theorem ck_L_b_99_1 : (al_L_99.drop 1).head?.all (fun alt => rf_run nm_cl nm_ct en_xs 8 xx_L kc_L cu_L po_L (some .boolean) 1 0 98 16364 (some mu_L_99) 5000 true 1191 alt) = true := by decide +kernel
theorem ck_L_b_99_2 : (al_L_99.drop 2).head?.all (fun alt => rf_run nm_cl nm_ct en_xs 8 xx_L kc_L cu_L po_L (some .boolean) 1 0 98 16364 (some mu_L_99) 5000 true 1191 alt) = true := by decide +kernel
theorem ck_L_b_99_3 : (al_L_99.drop 3).head?.all (fun alt => rf_run nm_cl nm_ct en_xs 8 xx_L kc_L cu_L po_L (some .boolean) 1 0 98 16364 (some mu_L_99) 5000 true 1191 alt) = true := by decide +kernel
theorem ck_L_b_99_4 : (al_L_99.drop 4).head?.all (fun alt => rf_run nm_cl nm_ct en_xs 8 xx_L kc_L cu_L po_L (some .boolean) 1 0 98 16364 (some mu_L_99) 5000 true 1191 alt) = true := by decide +kernel
theorem ck_L_b_99_5 : (al_L_99.drop 5).head?.all (fun alt => rf_run nm_cl nm_ct en_xs 8 xx_L kc_L cu_L po_L (some .boolean) 1 0 98 16364 (some mu_L_99) 5000 true 1191 alt) = true := by decide +kernel
theorem ck_L_b_99_6 : (al_L_99.drop 6).head?.all (fun alt => rf_run nm_cl nm_ct en_xs 8 xx_L kc_L cu_L po_L (some .boolean) 1 0 98 16364 (some mu_L_99) 5000 true 1191 alt) = true := by decide +kernel
theorem ck_L_b_99_7 : (al_L_99.drop 7).head?.all (fun alt => rf_run nm_cl nm_ct en_xs 8 xx_L kc_L cu_L po_L (some .boolean) 1 0 98 16364 (some mu_L_99) 5000 true 1191 alt) = true := by decide +kernel
theorem ck_L_c_99 : ∀ i, i < 8 → (al_L_99.drop i).head?.all (fun alt => rf_run nm_cl nm_ct en_xs 8 xx_L kc_L cu_L po_L (some .boolean) 1 0 98 16364 (some mu_L_99) 5000 true 1191 alt) = true
  | 0, _ => ck_L_b_99_0
  | 1, _ => ck_L_b_99_1
  | 2, _ => ck_L_b_99_2
  | 3, _ => ck_L_b_99_3
  | 4, _ => ck_L_b_99_4
  | 5, _ => ck_L_b_99_5
  | 6, _ => ck_L_b_99_6
  | 7, _ => ck_L_b_99_7
  | i + 8, h => absurd h (by omega)
theorem ck_L_n_99 : (al_L_99.drop 8).isEmpty = true := by decide +kernel
theorem ck_L_b_100_0 : (al_L_100.drop 0).head?.all (fun alt => rf_run nm_cl nm_ct en_xs 8 xx_L kc_L cu_L po_L (some .boolean) 1 0 98 16364 (some mu_L_100) 5000 true 1209 alt) = true := by decide +kernel
theorem ck_L_c_100 : ∀ i, i < 1 → (al_L_100.drop i).head?.all (fun alt => rf_run nm_cl nm_ct en_xs 8 xx_L kc_L cu_L po_L (some .boolean) 1 0 98 16364 (some mu_L_100) 5000 true 1209 alt) = true
  | 0, _ => ck_L_b_100_0
  | i + 1, h => absurd h (by omega)
theorem ck_L_n_100 : (al_L_100.drop 1).isEmpty = true := by decide +kernel
theorem ck_L_b_101_0 : (al_L_101.drop 0).head?.all (fun alt => rf_run nm_cl nm_ct en_xs 8 xx_L kc_L cu_L po_L (some .boolean) 1 0 98 16364 (some mu_L_101) 5000 true 1209 alt) = true := by decide +kernel
theorem ck_L_c_101 : ∀ i, i < 1 → (al_L_101.drop i).head?.all (fun alt => rf_run nm_cl nm_ct en_xs 8 xx_L kc_L cu_L po_L (some .boolean) 1 0 98 16364 (some mu_L_101) 5000 true 1209 alt) = true
  | 0, _ => ck_L_b_101_0
  | i + 1, h => absurd h (by omega)
theorem ck_L_n_101 : (al_L_101.drop 1).isEmpty = true := by decide +kernel
