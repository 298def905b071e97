/-! the law: its checks -/
theorem ck_L_b_59_0 : (al_L_59.drop 0).head?.all (fun alt => rf_run nm_cl nm_ct en_xs 8 xx_L kc_L cu_L po_L (some .boolean) 1 0 98 16364 (some mu_L_59) 5000 true 1152 alt) = true := by decide +kernel
theorem ck_L_c_59 : ∀ i, i < 1 → (al_L_59.drop i).head?.all (fun alt => rf_run nm_cl nm_ct en_xs 8 xx_L kc_L cu_L po_L (some .boolean) 1 0 98 16364 (some mu_L_59) 5000 true 1152 alt) = true
  | 0, _ => ck_L_b_59_0
  | i + 1, h => absurd h (by omega)
theorem ck_L_n_59 : (al_L_59.drop 1).isEmpty = true := by decide +kernel
theorem ck_L_b_60_0 : (al_L_60.drop 0).head?.all (fun alt => rf_run nm_cl nm_ct en_xs 8 xx_L kc_L cu_L po_L (some .boolean) 1 0 98 16364 (some mu_L_60) 5000 true 1152 alt) = true := by decide +kernel
theorem ck_L_c_60 : ∀ i, i < 1 → (al_L_60.drop i).head?.all (fun alt => rf_run nm_cl nm_ct en_xs 8 xx_L kc_L cu_L po_L (some .boolean) 1 0 98 16364 (some mu_L_60) 5000 true 1152 alt) = true
  | 0, _ => ck_L_b_60_0
  | i + 1, h => absurd h (by omega)
theorem ck_L_n_60 : (al_L_60.drop 1).isEmpty = true := by decide +kernel
theorem ck_L_b_61_0 : (al_L_61.drop 0).head?.all (fun alt => rf_run nm_cl nm_ct en_xs 8 xx_L kc_L cu_L po_L (some .boolean) 1 0 98 16364 (some mu_L_61) 5000 true 1152 alt) = true := by decide +kernel
theorem ck_L_c_61 : ∀ i, i < 1 → (al_L_61.drop i).head?.all (fun alt => rf_run nm_cl nm_ct en_xs 8 xx_L kc_L cu_L po_L (some .boolean) 1 0 98 16364 (some mu_L_61) 5000 true 1152 alt) = true
  | 0, _ => ck_L_b_61_0
  | i + 1, h => absurd h (by omega)
theorem ck_L_n_61 : (al_L_61.drop 1).isEmpty = true := by decide +kernel
theorem ck_L_b_62_0 : (al_L_62.drop 0).head?.all (fun alt => rf_run nm_cl nm_ct en_xs 8 xx_L kc_L cu_L po_L (some .boolean) 1 0 98 16364 (some mu_L_62) 5000 true 1152 alt) = true := by decide +kernel
theorem ck_L_c_62 : ∀ i, i < 1 → (al_L_62.drop i).head?.all (fun alt => rf_run nm_cl nm_ct en_xs 8 xx_L kc_L cu_L po_L (some .boolean) 1 0 98 16364 (some mu_L_62) 5000 true 1152 alt) = true
  | 0, _ => ck_L_b_62_0
  | i + 1, h => absurd h (by omega)
theorem ck_L_n_62 : (al_L_62.drop 1).isEmpty = true := by decide +kernel
theorem ck_L_b_63_0 : (al_L_63.drop 0).head?.all (fun alt => rf_run nm_cl nm_ct en_xs 8 xx_L kc_L cu_L po_L (some .boolean) 1 0 98 16364 (some mu_L_63) 5000 true 1152 alt) = true := by decide +kernel
theorem ck_L_c_63 : ∀ i, i < 1 → (al_L_63.drop i).head?.all (fun alt => rf_run nm_cl nm_ct en_xs 8 xx_L kc_L cu_L po_L (some .boolean) 1 0 98 16364 (some mu_L_63) 5000 true 1152 alt) = true
  | 0, _ => ck_L_b_63_0
  | i + 1, h => absurd h (by omega)
theorem ck_L_n_63 : (al_L_63.drop 1).isEmpty = true := by decide +kernel
theorem ck_L_b_64_0 : (al_L_64.drop 0).head?.all (fun alt => rf_run nm_cl nm_ct en_xs 8 xx_L kc_L cu_L po_L (some .boolean) 1 0 98 16364 (some mu_L_64) 5000 true 1152 alt) = true := by decide +kernel
theorem ck_L_c_64 : ∀ i, i < 1 → (al_L_64.drop i).head?.all (fun alt => rf_run nm_cl nm_ct en_xs 8 xx_L kc_L cu_L po_L (some .boolean) 1 0 98 16364 (some mu_L_64) 5000 true 1152 alt) = true
  | 0, _ => ck_L_b_64_0
  | i + 1, h => absurd h (by omega)
theorem ck_L_n_64 : (al_L_64.drop 1).isEmpty = true := by decide +kernel
theorem ck_L_b_65_0 : (al_L_65.drop 0).head?.all (fun alt => rf_run nm_cl nm_ct en_xs 8 xx_L kc_L cu_L po_L (some .boolean) 1 0 98 16364 (some mu_L_65) 5000 true 1152 alt) = true := by decide +kernel
theorem ck_L_c_65 : ∀ i, i < 1 → (al_L_65.drop i).head?.all (fun alt => rf_run nm_cl nm_ct en_xs 8 xx_L kc_L cu_L po_L (some .boolean) 1 0 98 16364 (some mu_L_65) 5000 true 1152 alt) = true
  | 0, _ => ck_L_b_65_0
  | i + 1, h => absurd h (by omega)
theorem ck_L_n_65 : (al_L_65.drop 1).isEmpty = true := by decide +kernel
theorem ck_L_b_66_0 : (al_L_66.drop 0).head?.all (fun alt => rf_run nm_cl nm_ct en_xs 8 xx_L kc_L cu_L po_L (some .boolean) 1 0 98 16364 (some mu_L_66) 5000 true 1152 alt) = true := by decide +kernel
theorem ck_L_c_66 : ∀ i, i < 1 → (al_L_66.drop i).head?.all (fun alt => rf_run nm_cl nm_ct en_xs 8 xx_L kc_L cu_L po_L (some .boolean) 1 0 98 16364 (some mu_L_66) 5000 true 1152 alt) = true
  | 0, _ => ck_L_b_66_0
  | i + 1, h => absurd h (by omega)
theorem ck_L_n_66 : (al_L_66.drop 1).isEmpty = true := by decide +kernel
theorem ck_L_b_67_0 : (al_L_67.drop 0).head?.all (fun alt => rf_run nm_cl nm_ct en_xs 8 xx_L kc_L cu_L po_L (some .boolean) 1 0 98 16364 (some mu_L_67) 5000 true 1152 alt) = true := by decide +kernel
theorem ck_L_c_67 : ∀ i, i < 1 → (al_L_67.drop i).head?.all (fun alt => rf_run nm_cl nm_ct en_xs 8 xx_L kc_L cu_L po_L (some .boolean) 1 0 98 16364 (some mu_L_67) 5000 true 1152 alt) = true
  | 0, _ => ck_L_b_67_0
  | i + 1, h => absurd h (by omega)
theorem ck_L_n_67 : (al_L_67.drop 1).isEmpty = true := by decide +kernel
theorem ck_L_b_68_0 : (al_L_68.drop 0).head?.all (fun alt => rf_run nm_cl nm_ct en_xs 8 xx_L kc_L cu_L po_L (some .boolean) 1 0 98 16364 (some mu_L_68) 5000 true 1152 alt) = true := by decide +kernel
theorem ck_L_c_68 : ∀ i, i < 1 → (al_L_68.drop i).head?.all (fun alt => rf_run nm_cl nm_ct en_xs 8 xx_L kc_L cu_L po_L (some .boolean) 1 0 98 16364 (some mu_L_68) 5000 true 1152 alt) = true
  | 0, _ => ck_L_b_68_0
  | i + 1, h => absurd h (by omega)
theorem ck_L_n_68 : (al_L_68.drop 1).isEmpty = true := by decide +kernel
theorem ck_L_b_69_0 : (al_L_69.drop 0).head?.all (fun alt => rf_run nm_cl nm_ct en_xs 8 xx_L kc_L cu_L po_L (some .boolean) 1 0 98 16364 (some mu_L_69) 5000 true 1152 alt) = true := by decide +kernel
theorem ck_L_c_69 : ∀ i, i < 1 → (al_L_69.drop i).head?.all (fun alt => rf_run nm_cl nm_ct en_xs 8 xx_L kc_L cu_L po_L (some .boolean) 1 0 98 16364 (some mu_L_69) 5000 true 1152 alt) = true
  | 0, _ => ck_L_b_69_0
  | i + 1, h => absurd h (by omega)
theorem ck_L_n_69 : (al_L_69.drop 1).isEmpty = true := by decide +kernel
theorem ck_L_b_70_0 : (al_L_70.drop 0).head?.all (fun alt => rf_run nm_cl nm_ct en_xs 8 xx_L kc_L cu_L po_L (some .boolean) 1 0 98 16364 (some mu_L_70) 5000 true 1152 alt) = true := by decide +kernel
theorem ck_L_c_70 : ∀ i, i < 1 → (al_L_70.drop i).head?.all (fun alt => rf_run nm_cl nm_ct en_xs 8 xx_L kc_L cu_L po_L (some .boolean) 1 0 98 16364 (some mu_L_70) 5000 true 1152 alt) = true
  | 0, _ => ck_L_b_70_0
  | i + 1, h => absurd h (by omega)
theorem ck_L_n_70 : (al_L_70.drop 1).isEmpty = true := by decide +kernel
