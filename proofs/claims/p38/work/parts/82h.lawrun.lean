/-! the law: its checks -/
theorem ck_L_b_64_0 : (al_L_64.drop 0).head?.all (fun alt => rf_run nm_cl nm_ct en_xs 8 xx_L kc_L cu_L po_L (some .boolean) 1 0 98 16364 (some mu_L_64) 5000 true 1209 alt) = true := by decide +kernel
theorem ck_L_c_64 : ∀ i, i < 1 → (al_L_64.drop i).head?.all (fun alt => rf_run nm_cl nm_ct en_xs 8 xx_L kc_L cu_L po_L (some .boolean) 1 0 98 16364 (some mu_L_64) 5000 true 1209 alt) = true
  | 0, _ => ck_L_b_64_0
  | i + 1, h => absurd h (by omega)
theorem ck_L_n_64 : (al_L_64.drop 1).isEmpty = true := by decide +kernel
theorem ck_L_b_65_0 : (al_L_65.drop 0).head?.all (fun alt => rf_run nm_cl nm_ct en_xs 8 xx_L kc_L cu_L po_L (some .boolean) 1 0 98 16364 (some mu_L_65) 5000 true 1209 alt) = true := by decide +kernel
theorem ck_L_c_65 : ∀ i, i < 1 → (al_L_65.drop i).head?.all (fun alt => rf_run nm_cl nm_ct en_xs 8 xx_L kc_L cu_L po_L (some .boolean) 1 0 98 16364 (some mu_L_65) 5000 true 1209 alt) = true
  | 0, _ => ck_L_b_65_0
  | i + 1, h => absurd h (by omega)
theorem ck_L_n_65 : (al_L_65.drop 1).isEmpty = true := by decide +kernel
theorem ck_L_b_66_0 : (al_L_66.drop 0).head?.all (fun alt => rf_run nm_cl nm_ct en_xs 8 xx_L kc_L cu_L po_L (some .boolean) 1 0 98 16364 (some mu_L_66) 5000 true 1209 alt) = true := by decide +kernel
theorem ck_L_c_66 : ∀ i, i < 1 → (al_L_66.drop i).head?.all (fun alt => rf_run nm_cl nm_ct en_xs 8 xx_L kc_L cu_L po_L (some .boolean) 1 0 98 16364 (some mu_L_66) 5000 true 1209 alt) = true
  | 0, _ => ck_L_b_66_0
  | i + 1, h => absurd h (by omega)
theorem ck_L_n_66 : (al_L_66.drop 1).isEmpty = true := by decide +kernel
theorem ck_L_b_67_0 : (al_L_67.drop 0).head?.all (fun alt => rf_run nm_cl nm_ct en_xs 8 xx_L kc_L cu_L po_L (some .boolean) 1 0 98 16364 (some mu_L_67) 5000 true 1209 alt) = true := by decide +kernel
theorem ck_L_c_67 : ∀ i, i < 1 → (al_L_67.drop i).head?.all (fun alt => rf_run nm_cl nm_ct en_xs 8 xx_L kc_L cu_L po_L (some .boolean) 1 0 98 16364 (some mu_L_67) 5000 true 1209 alt) = true
  | 0, _ => ck_L_b_67_0
  | i + 1, h => absurd h (by omega)
theorem ck_L_n_67 : (al_L_67.drop 1).isEmpty = true := by decide +kernel
theorem ck_L_b_68_0 : (al_L_68.drop 0).head?.all (fun alt => rf_run nm_cl nm_ct en_xs 8 xx_L kc_L cu_L po_L (some .boolean) 1 0 98 16364 (some mu_L_68) 5000 true 1209 alt) = true := by decide +kernel
theorem ck_L_c_68 : ∀ i, i < 1 → (al_L_68.drop i).head?.all (fun alt => rf_run nm_cl nm_ct en_xs 8 xx_L kc_L cu_L po_L (some .boolean) 1 0 98 16364 (some mu_L_68) 5000 true 1209 alt) = true
  | 0, _ => ck_L_b_68_0
  | i + 1, h => absurd h (by omega)
theorem ck_L_n_68 : (al_L_68.drop 1).isEmpty = true := by decide +kernel
theorem ck_L_b_69_0 : (al_L_69.drop 0).head?.all (fun alt => rf_run nm_cl nm_ct en_xs 8 xx_L kc_L cu_L po_L (some .boolean) 1 0 98 16364 (some mu_L_69) 5000 true 1209 alt) = true := by decide +kernel
theorem ck_L_c_69 : ∀ i, i < 1 → (al_L_69.drop i).head?.all (fun alt => rf_run nm_cl nm_ct en_xs 8 xx_L kc_L cu_L po_L (some .boolean) 1 0 98 16364 (some mu_L_69) 5000 true 1209 alt) = true
  | 0, _ => ck_L_b_69_0
  | i + 1, h => absurd h (by omega)
theorem ck_L_n_69 : (al_L_69.drop 1).isEmpty = true := by decide +kernel
theorem ck_L_b_70_0 : (al_L_70.drop 0).head?.all (fun alt => rf_run nm_cl nm_ct en_xs 8 xx_L kc_L cu_L po_L (some .boolean) 1 0 98 16364 (some mu_L_70) 5000 true 1209 alt) = true := by decide +kernel
theorem ck_L_c_70 : ∀ i, i < 1 → (al_L_70.drop i).head?.all (fun alt => rf_run nm_cl nm_ct en_xs 8 xx_L kc_L cu_L po_L (some .boolean) 1 0 98 16364 (some mu_L_70) 5000 true 1209 alt) = true
  | 0, _ => ck_L_b_70_0
  | i + 1, h => absurd h (by omega)
theorem ck_L_n_70 : (al_L_70.drop 1).isEmpty = true := by decide +kernel
theorem ck_L_b_71_0 : (al_L_71.drop 0).head?.all (fun alt => rf_run nm_cl nm_ct en_xs 8 xx_L kc_L cu_L po_L (some .boolean) 1 0 98 16364 (some mu_L_71) 5000 true 1209 alt) = true := by decide +kernel
theorem ck_L_c_71 : ∀ i, i < 1 → (al_L_71.drop i).head?.all (fun alt => rf_run nm_cl nm_ct en_xs 8 xx_L kc_L cu_L po_L (some .boolean) 1 0 98 16364 (some mu_L_71) 5000 true 1209 alt) = true
  | 0, _ => ck_L_b_71_0
  | i + 1, h => absurd h (by omega)
theorem ck_L_n_71 : (al_L_71.drop 1).isEmpty = true := by decide +kernel
theorem ck_L_b_72_0 : (al_L_72.drop 0).head?.all (fun alt => rf_run nm_cl nm_ct en_xs 8 xx_L kc_L cu_L po_L (some .boolean) 1 0 98 16364 (some mu_L_72) 5000 true 1209 alt) = true := by decide +kernel
theorem ck_L_c_72 : ∀ i, i < 1 → (al_L_72.drop i).head?.all (fun alt => rf_run nm_cl nm_ct en_xs 8 xx_L kc_L cu_L po_L (some .boolean) 1 0 98 16364 (some mu_L_72) 5000 true 1209 alt) = true
  | 0, _ => ck_L_b_72_0
  | i + 1, h => absurd h (by omega)
theorem ck_L_n_72 : (al_L_72.drop 1).isEmpty = true := by decide +kernel
theorem ck_L_b_73_0 : (al_L_73.drop 0).head?.all (fun alt => rf_run nm_cl nm_ct en_xs 8 xx_L kc_L cu_L po_L (some .boolean) 1 0 98 16364 (some mu_L_73) 5000 true 1209 alt) = true := by decide +kernel
theorem ck_L_c_73 : ∀ i, i < 1 → (al_L_73.drop i).head?.all (fun alt => rf_run nm_cl nm_ct en_xs 8 xx_L kc_L cu_L po_L (some .boolean) 1 0 98 16364 (some mu_L_73) 5000 true 1209 alt) = true
  | 0, _ => ck_L_b_73_0
  | i + 1, h => absurd h (by omega)
theorem ck_L_n_73 : (al_L_73.drop 1).isEmpty = true := by decide +kernel
theorem ck_L_b_74_0 : (al_L_74.drop 0).head?.all (fun alt => rf_run nm_cl nm_ct en_xs 8 xx_L kc_L cu_L po_L (some .boolean) 1 0 98 16364 (some mu_L_74) 5000 true 1209 alt) = true := by decide +kernel
theorem ck_L_c_74 : ∀ i, i < 1 → (al_L_74.drop i).head?.all (fun alt => rf_run nm_cl nm_ct en_xs 8 xx_L kc_L cu_L po_L (some .boolean) 1 0 98 16364 (some mu_L_74) 5000 true 1209 alt) = true
  | 0, _ => ck_L_b_74_0
  | i + 1, h => absurd h (by omega)
theorem ck_L_n_74 : (al_L_74.drop 1).isEmpty = true := by decide +kernel
theorem ck_L_b_75_0 : (al_L_75.drop 0).head?.all (fun alt => rf_run nm_cl nm_ct en_xs 8 xx_L kc_L cu_L po_L (some .boolean) 1 0 98 16364 (some mu_L_75) 5000 true 1213 alt) = true := by decide +kernel
theorem ck_L_c_75 : ∀ i, i < 1 → (al_L_75.drop i).head?.all (fun alt => rf_run nm_cl nm_ct en_xs 8 xx_L kc_L cu_L po_L (some .boolean) 1 0 98 16364 (some mu_L_75) 5000 true 1213 alt) = true
  | 0, _ => ck_L_b_75_0
  | i + 1, h => absurd h (by omega)
theorem ck_L_n_75 : (al_L_75.drop 1).isEmpty = true := by decide +kernel
