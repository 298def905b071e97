/-! the law: its checks -/
theorem ck_L_a : rf_run nm_cl nm_ct en_xs 8 xx_L kc_L cu_L po_L (some .boolean) 1 0 98 16364 none 5000 false 0 es_L = true := by decide +kernel
theorem ck_L_b_0_0 : (al_L_0.drop 0).head?.all (fun alt => rf_run nm_cl nm_ct en_xs 8 xx_L kc_L cu_L po_L (some .boolean) 1 0 98 16364 (some mu_L_0) 5000 true 16 alt) = true := by decide +kernel
theorem ck_L_c_0 : ∀ i, i < 1 → (al_L_0.drop i).head?.all (fun alt => rf_run nm_cl nm_ct en_xs 8 xx_L kc_L cu_L po_L (some .boolean) 1 0 98 16364 (some mu_L_0) 5000 true 16 alt) = true
  | 0, _ => ck_L_b_0_0
  | i + 1, h => absurd h (by omega)
theorem ck_L_n_0 : (al_L_0.drop 1).isEmpty = true := by decide +kernel
theorem ck_L_b_1_0 : (al_L_1.drop 0).head?.all (fun alt => rf_run nm_cl nm_ct en_xs 8 xx_L kc_L cu_L po_L (some .boolean) 1 0 98 16364 (some mu_L_1) 5000 true 18 alt) = true := by decide +kernel
theorem ck_L_c_1 : ∀ i, i < 1 → (al_L_1.drop i).head?.all (fun alt => rf_run nm_cl nm_ct en_xs 8 xx_L kc_L cu_L po_L (some .boolean) 1 0 98 16364 (some mu_L_1) 5000 true 18 alt) = true
  | 0, _ => ck_L_b_1_0
  | i + 1, h => absurd h (by omega)
theorem ck_L_n_1 : (al_L_1.drop 1).isEmpty = true := by decide +kernel
theorem ck_L_b_2_0 : (al_L_2.drop 0).head?.all (fun alt => rf_run nm_cl nm_ct en_xs 8 xx_L kc_L cu_L po_L (some .boolean) 1 0 98 16364 (some mu_L_2) 5000 true 204 alt) = true := by decide +kernel
theorem ck_L_c_2 : ∀ i, i < 1 → (al_L_2.drop i).head?.all (fun alt => rf_run nm_cl nm_ct en_xs 8 xx_L kc_L cu_L po_L (some .boolean) 1 0 98 16364 (some mu_L_2) 5000 true 204 alt) = true
  | 0, _ => ck_L_b_2_0
  | i + 1, h => absurd h (by omega)
theorem ck_L_n_2 : (al_L_2.drop 1).isEmpty = true := by decide +kernel
theorem ck_L_b_3_0 : (al_L_3.drop 0).head?.all (fun alt => rf_run nm_cl nm_ct en_xs 8 xx_L kc_L cu_L po_L (some .boolean) 1 0 98 16364 (some mu_L_3) 5000 true 237 alt) = true := by decide +kernel
theorem ck_L_c_3 : ∀ i, i < 1 → (al_L_3.drop i).head?.all (fun alt => rf_run nm_cl nm_ct en_xs 8 xx_L kc_L cu_L po_L (some .boolean) 1 0 98 16364 (some mu_L_3) 5000 true 237 alt) = true
  | 0, _ => ck_L_b_3_0
  | i + 1, h => absurd h (by omega)
theorem ck_L_n_3 : (al_L_3.drop 1).isEmpty = true := by decide +kernel
theorem ck_L_b_4_0 : (al_L_4.drop 0).head?.all (fun alt => rf_run nm_cl nm_ct en_xs 8 xx_L kc_L cu_L po_L (some .boolean) 1 0 98 16364 (some mu_L_4) 5000 true 280 alt) = true := by decide +kernel
theorem ck_L_c_4 : ∀ i, i < 1 → (al_L_4.drop i).head?.all (fun alt => rf_run nm_cl nm_ct en_xs 8 xx_L kc_L cu_L po_L (some .boolean) 1 0 98 16364 (some mu_L_4) 5000 true 280 alt) = true
  | 0, _ => ck_L_b_4_0
  | i + 1, h => absurd h (by omega)
theorem ck_L_n_4 : (al_L_4.drop 1).isEmpty = true := by decide +kernel
theorem ck_L_b_5_0 : (al_L_5.drop 0).head?.all (fun alt => rf_run nm_cl nm_ct en_xs 8 xx_L kc_L cu_L po_L (some .boolean) 1 0 98 16364 (some mu_L_5) 5000 true 323 alt) = true := by decide +kernel
theorem ck_L_c_5 : ∀ i, i < 1 → (al_L_5.drop i).head?.all (fun alt => rf_run nm_cl nm_ct en_xs 8 xx_L kc_L cu_L po_L (some .boolean) 1 0 98 16364 (some mu_L_5) 5000 true 323 alt) = true
  | 0, _ => ck_L_b_5_0
  | i + 1, h => absurd h (by omega)
theorem ck_L_n_5 : (al_L_5.drop 1).isEmpty = true := by decide +kernel
theorem ck_L_b_6_0 : (al_L_6.drop 0).head?.all (fun alt => rf_run nm_cl nm_ct en_xs 8 xx_L kc_L cu_L po_L (some .boolean) 1 0 98 16364 (some mu_L_6) 5000 true 356 alt) = true := by decide +kernel
theorem ck_L_c_6 : ∀ i, i < 1 → (al_L_6.drop i).head?.all (fun alt => rf_run nm_cl nm_ct en_xs 8 xx_L kc_L cu_L po_L (some .boolean) 1 0 98 16364 (some mu_L_6) 5000 true 356 alt) = true
  | 0, _ => ck_L_b_6_0
  | i + 1, h => absurd h (by omega)
theorem ck_L_n_6 : (al_L_6.drop 1).isEmpty = true := by decide +kernel
theorem ck_L_b_7_0 : (al_L_7.drop 0).head?.all (fun alt => rf_run nm_cl nm_ct en_xs 8 xx_L kc_L cu_L po_L (some .boolean) 1 0 98 16364 (some mu_L_7) 5000 true 379 alt) = true := by decide +kernel
theorem ck_L_c_7 : ∀ i, i < 1 → (al_L_7.drop i).head?.all (fun alt => rf_run nm_cl nm_ct en_xs 8 xx_L kc_L cu_L po_L (some .boolean) 1 0 98 16364 (some mu_L_7) 5000 true 379 alt) = true
  | 0, _ => ck_L_b_7_0
  | i + 1, h => absurd h (by omega)
theorem ck_L_n_7 : (al_L_7.drop 1).isEmpty = true := by decide +kernel
theorem ck_L_b_8_0 : (al_L_8.drop 0).head?.all (fun alt => rf_run nm_cl nm_ct en_xs 8 xx_L kc_L cu_L po_L (some .boolean) 1 0 98 16364 (some mu_L_8) 5000 true 392 alt) = true := by decide +kernel
theorem ck_L_c_8 : ∀ i, i < 1 → (al_L_8.drop i).head?.all (fun alt => rf_run nm_cl nm_ct en_xs 8 xx_L kc_L cu_L po_L (some .boolean) 1 0 98 16364 (some mu_L_8) 5000 true 392 alt) = true
  | 0, _ => ck_L_b_8_0
  | i + 1, h => absurd h (by omega)
theorem ck_L_n_8 : (al_L_8.drop 1).isEmpty = true := by decide +kernel
theorem ck_L_b_9_0 : (al_L_9.drop 0).head?.all (fun alt => rf_run nm_cl nm_ct en_xs 8 xx_L kc_L cu_L po_L (some .boolean) 1 0 98 16364 (some mu_L_9) 5000 true 435 alt) = true := by decide +kernel
theorem ck_L_c_9 : ∀ i, i < 1 → (al_L_9.drop i).head?.all (fun alt => rf_run nm_cl nm_ct en_xs 8 xx_L kc_L cu_L po_L (some .boolean) 1 0 98 16364 (some mu_L_9) 5000 true 435 alt) = true
  | 0, _ => ck_L_b_9_0
  | i + 1, h => absurd h (by omega)
theorem ck_L_n_9 : (al_L_9.drop 1).isEmpty = true := by decide +kernel
theorem ck_L_b_10_0 : (al_L_10.drop 0).head?.all (fun alt => rf_run nm_cl nm_ct en_xs 8 xx_L kc_L cu_L po_L (some .boolean) 1 0 98 16364 (some mu_L_10) 5000 true 468 alt) = true := by decide +kernel
theorem ck_L_c_10 : ∀ i, i < 1 → (al_L_10.drop i).head?.all (fun alt => rf_run nm_cl nm_ct en_xs 8 xx_L kc_L cu_L po_L (some .boolean) 1 0 98 16364 (some mu_L_10) 5000 true 468 alt) = true
  | 0, _ => ck_L_b_10_0
  | i + 1, h => absurd h (by omega)
theorem ck_L_n_10 : (al_L_10.drop 1).isEmpty = true := by decide +kernel
