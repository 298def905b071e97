/-! the law: its checks -/
theorem ck_L_b_40_0 : (al_L_40.drop 0).head?.all (fun alt => rf_run nm_cl nm_ct en_xs 8 xx_L kc_L cu_L po_L (some .boolean) 1 0 98 16364 (some mu_L_40) 5000 true 1194 alt) = true := by decide +kernel
theorem ck_L_c_40 : ∀ i, i < 1 → (al_L_40.drop i).head?.all (fun alt => rf_run nm_cl nm_ct en_xs 8 xx_L kc_L cu_L po_L (some .boolean) 1 0 98 16364 (some mu_L_40) 5000 true 1194 alt) = true
  | 0, _ => ck_L_b_40_0
  | i + 1, h => absurd h (by omega)
theorem ck_L_n_40 : (al_L_40.drop 1).isEmpty = true := by decide +kernel
theorem ck_L_b_41_0 : (al_L_41.drop 0).head?.all (fun alt => rf_run nm_cl nm_ct en_xs 8 xx_L kc_L cu_L po_L (some .boolean) 1 0 98 16364 (some mu_L_41) 5000 true 1194 alt) = true := by decide +kernel
theorem ck_L_c_41 : ∀ i, i < 1 → (al_L_41.drop i).head?.all (fun alt => rf_run nm_cl nm_ct en_xs 8 xx_L kc_L cu_L po_L (some .boolean) 1 0 98 16364 (some mu_L_41) 5000 true 1194 alt) = true
  | 0, _ => ck_L_b_41_0
  | i + 1, h => absurd h (by omega)
theorem ck_L_n_41 : (al_L_41.drop 1).isEmpty = true := by decide +kernel
theorem ck_L_b_42_0 : (al_L_42.drop 0).head?.all (fun alt => rf_run nm_cl nm_ct en_xs 8 xx_L kc_L cu_L po_L (some .boolean) 1 0 98 16364 (some mu_L_42) 5000 true 1194 alt) = true := by decide +kernel
theorem ck_L_c_42 : ∀ i, i < 1 → (al_L_42.drop i).head?.all (fun alt => rf_run nm_cl nm_ct en_xs 8 xx_L kc_L cu_L po_L (some .boolean) 1 0 98 16364 (some mu_L_42) 5000 true 1194 alt) = true
  | 0, _ => ck_L_b_42_0
  | i + 1, h => absurd h (by omega)
theorem ck_L_n_42 : (al_L_42.drop 1).isEmpty = true := by decide +kernel
theorem ck_L_b_43_0 : (al_L_43.drop 0).head?.all (fun alt => rf_run nm_cl nm_ct en_xs 8 xx_L kc_L cu_L po_L (some .boolean) 1 0 98 16364 (some mu_L_43) 5000 true 1194 alt) = true := by decide +kernel
theorem ck_L_c_43 : ∀ i, i < 1 → (al_L_43.drop i).head?.all (fun alt => rf_run nm_cl nm_ct en_xs 8 xx_L kc_L cu_L po_L (some .boolean) 1 0 98 16364 (some mu_L_43) 5000 true 1194 alt) = true
  | 0, _ => ck_L_b_43_0
  | i + 1, h => absurd h (by omega)
theorem ck_L_n_43 : (al_L_43.drop 1).isEmpty = true := by decide +kernel
theorem ck_L_b_44_0 : (al_L_44.drop 0).head?.all (fun alt => rf_run nm_cl nm_ct en_xs 8 xx_L kc_L cu_L po_L (some .boolean) 1 0 98 16364 (some mu_L_44) 5000 true 1194 alt) = true := by decide +kernel
theorem ck_L_c_44 : ∀ i, i < 1 → (al_L_44.drop i).head?.all (fun alt => rf_run nm_cl nm_ct en_xs 8 xx_L kc_L cu_L po_L (some .boolean) 1 0 98 16364 (some mu_L_44) 5000 true 1194 alt) = true
  | 0, _ => ck_L_b_44_0
  | i + 1, h => absurd h (by omega)
theorem ck_L_n_44 : (al_L_44.drop 1).isEmpty = true := by decide +kernel
theorem ck_L_b_45_0 : (al_L_45.drop 0).head?.all (fun alt => rf_run nm_cl nm_ct en_xs 8 xx_L kc_L cu_L po_L (some .boolean) 1 0 98 16364 (some mu_L_45) 5000 true 1194 alt) = true := by decide +kernel
theorem ck_L_c_45 : ∀ i, i < 1 → (al_L_45.drop i).head?.all (fun alt => rf_run nm_cl nm_ct en_xs 8 xx_L kc_L cu_L po_L (some .boolean) 1 0 98 16364 (some mu_L_45) 5000 true 1194 alt) = true
  | 0, _ => ck_L_b_45_0
  | i + 1, h => absurd h (by omega)
theorem ck_L_n_45 : (al_L_45.drop 1).isEmpty = true := by decide +kernel
theorem ck_L_b_46_0 : (al_L_46.drop 0).head?.all (fun alt => rf_run nm_cl nm_ct en_xs 8 xx_L kc_L cu_L po_L (some .boolean) 1 0 98 16364 (some mu_L_46) 5000 true 1194 alt) = true := by decide +kernel
theorem ck_L_c_46 : ∀ i, i < 1 → (al_L_46.drop i).head?.all (fun alt => rf_run nm_cl nm_ct en_xs 8 xx_L kc_L cu_L po_L (some .boolean) 1 0 98 16364 (some mu_L_46) 5000 true 1194 alt) = true
  | 0, _ => ck_L_b_46_0
  | i + 1, h => absurd h (by omega)
theorem ck_L_n_46 : (al_L_46.drop 1).isEmpty = true := by decide +kernel
theorem ck_L_b_47_0 : (al_L_47.drop 0).head?.all (fun alt => rf_run nm_cl nm_ct en_xs 8 xx_L kc_L cu_L po_L (some .boolean) 1 0 98 16364 (some mu_L_47) 5000 true 1194 alt) = true := by decide +kernel
theorem ck_L_c_47 : ∀ i, i < 1 → (al_L_47.drop i).head?.all (fun alt => rf_run nm_cl nm_ct en_xs 8 xx_L kc_L cu_L po_L (some .boolean) 1 0 98 16364 (some mu_L_47) 5000 true 1194 alt) = true
  | 0, _ => ck_L_b_47_0
  | i + 1, h => absurd h (by omega)
theorem ck_L_n_47 : (al_L_47.drop 1).isEmpty = true := by decide +kernel
theorem ck_L_b_48_0 : (al_L_48.drop 0).head?.all (fun alt => rf_run nm_cl nm_ct en_xs 8 xx_L kc_L cu_L po_L (some .boolean) 1 0 98 16364 (some mu_L_48) 5000 true 1194 alt) = true := by decide +kernel
theorem ck_L_c_48 : ∀ i, i < 1 → (al_L_48.drop i).head?.all (fun alt => rf_run nm_cl nm_ct en_xs 8 xx_L kc_L cu_L po_L (some .boolean) 1 0 98 16364 (some mu_L_48) 5000 true 1194 alt) = true
  | 0, _ => ck_L_b_48_0
  | i + 1, h => absurd h (by omega)
theorem ck_L_n_48 : (al_L_48.drop 1).isEmpty = true := by decide +kernel
theorem ck_L_b_49_0 : (al_L_49.drop 0).head?.all (fun alt => rf_run nm_cl nm_ct en_xs 8 xx_L kc_L cu_L po_L (some .boolean) 1 0 98 16364 (some mu_L_49) 5000 true 1194 alt) = true := by decide +kernel
theorem ck_L_c_49 : ∀ i, i < 1 → (al_L_49.drop i).head?.all (fun alt => rf_run nm_cl nm_ct en_xs 8 xx_L kc_L cu_L po_L (some .boolean) 1 0 98 16364 (some mu_L_49) 5000 true 1194 alt) = true
  | 0, _ => ck_L_b_49_0
  | i + 1, h => absurd h (by omega)
theorem ck_L_n_49 : (al_L_49.drop 1).isEmpty = true := by decide +kernel
theorem ck_L_b_50_0 : (al_L_50.drop 0).head?.all (fun alt => rf_run nm_cl nm_ct en_xs 8 xx_L kc_L cu_L po_L (some .boolean) 1 0 98 16364 (some mu_L_50) 5000 true 1194 alt) = true := by decide +kernel
theorem ck_L_c_50 : ∀ i, i < 1 → (al_L_50.drop i).head?.all (fun alt => rf_run nm_cl nm_ct en_xs 8 xx_L kc_L cu_L po_L (some .boolean) 1 0 98 16364 (some mu_L_50) 5000 true 1194 alt) = true
  | 0, _ => ck_L_b_50_0
  | i + 1, h => absurd h (by omega)
theorem ck_L_n_50 : (al_L_50.drop 1).isEmpty = true := by decide +kernel
theorem ck_L_b_51_0 : (al_L_51.drop 0).head?.all (fun alt => rf_run nm_cl nm_ct en_xs 8 xx_L kc_L cu_L po_L (some .boolean) 1 0 98 16364 (some mu_L_51) 5000 true 1194 alt) = true := by decide +kernel
theorem ck_L_c_51 : ∀ i, i < 1 → (al_L_51.drop i).head?.all (fun alt => rf_run nm_cl nm_ct en_xs 8 xx_L kc_L cu_L po_L (some .boolean) 1 0 98 16364 (some mu_L_51) 5000 true 1194 alt) = true
  | 0, _ => ck_L_b_51_0
  | i + 1, h => absurd h (by omega)
theorem ck_L_n_51 : (al_L_51.drop 1).isEmpty = true := by decide +kernel
