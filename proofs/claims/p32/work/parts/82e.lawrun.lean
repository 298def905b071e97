/-! the law: its checks -/
theorem ck_L_b_35_0 : (al_L_35.drop 0).head?.all (fun alt => rf_run nm_cl nm_ct en_xs 8 xx_L kc_L cu_L po_L (some .boolean) 1 0 98 16364 (some mu_L_35) 5000 true 1152 alt) = true := by decide +kernel
theorem ck_L_c_35 : ∀ i, i < 1 → (al_L_35.drop i).head?.all (fun alt => rf_run nm_cl nm_ct en_xs 8 xx_L kc_L cu_L po_L (some .boolean) 1 0 98 16364 (some mu_L_35) 5000 true 1152 alt) = true
  | 0, _ => ck_L_b_35_0
  | i + 1, h => absurd h (by omega)
theorem ck_L_n_35 : (al_L_35.drop 1).isEmpty = true := by decide +kernel
theorem ck_L_b_36_0 : (al_L_36.drop 0).head?.all (fun alt => rf_run nm_cl nm_ct en_xs 8 xx_L kc_L cu_L po_L (some .boolean) 1 0 98 16364 (some mu_L_36) 5000 true 1152 alt) = true := by decide +kernel
theorem ck_L_c_36 : ∀ i, i < 1 → (al_L_36.drop i).head?.all (fun alt => rf_run nm_cl nm_ct en_xs 8 xx_L kc_L cu_L po_L (some .boolean) 1 0 98 16364 (some mu_L_36) 5000 true 1152 alt) = true
  | 0, _ => ck_L_b_36_0
  | i + 1, h => absurd h (by omega)
theorem ck_L_n_36 : (al_L_36.drop 1).isEmpty = true := by decide +kernel
theorem ck_L_b_37_0 : (al_L_37.drop 0).head?.all (fun alt => rf_run nm_cl nm_ct en_xs 8 xx_L kc_L cu_L po_L (some .boolean) 1 0 98 16364 (some mu_L_37) 5000 true 1152 alt) = true := by decide +kernel
theorem ck_L_c_37 : ∀ i, i < 1 → (al_L_37.drop i).head?.all (fun alt => rf_run nm_cl nm_ct en_xs 8 xx_L kc_L cu_L po_L (some .boolean) 1 0 98 16364 (some mu_L_37) 5000 true 1152 alt) = true
  | 0, _ => ck_L_b_37_0
  | i + 1, h => absurd h (by omega)
theorem ck_L_n_37 : (al_L_37.drop 1).isEmpty = true := by decide +kernel
theorem ck_L_b_38_0 : (al_L_38.drop 0).head?.all (fun alt => rf_run nm_cl nm_ct en_xs 8 xx_L kc_L cu_L po_L (some .boolean) 1 0 98 16364 (some mu_L_38) 5000 true 1152 alt) = true := by decide +kernel
theorem ck_L_c_38 : ∀ i, i < 1 → (al_L_38.drop i).head?.all (fun alt => rf_run nm_cl nm_ct en_xs 8 xx_L kc_L cu_L po_L (some .boolean) 1 0 98 16364 (some mu_L_38) 5000 true 1152 alt) = true
  | 0, _ => ck_L_b_38_0
  | i + 1, h => absurd h (by omega)
theorem ck_L_n_38 : (al_L_38.drop 1).isEmpty = true := by decide +kernel
theorem ck_L_b_39_0 : (al_L_39.drop 0).head?.all (fun alt => rf_run nm_cl nm_ct en_xs 8 xx_L kc_L cu_L po_L (some .boolean) 1 0 98 16364 (some mu_L_39) 5000 true 1152 alt) = true := by decide +kernel
theorem ck_L_c_39 : ∀ i, i < 1 → (al_L_39.drop i).head?.all (fun alt => rf_run nm_cl nm_ct en_xs 8 xx_L kc_L cu_L po_L (some .boolean) 1 0 98 16364 (some mu_L_39) 5000 true 1152 alt) = true
  | 0, _ => ck_L_b_39_0
  | i + 1, h => absurd h (by omega)
theorem ck_L_n_39 : (al_L_39.drop 1).isEmpty = true := by decide +kernel
theorem ck_L_b_40_0 : (al_L_40.drop 0).head?.all (fun alt => rf_run nm_cl nm_ct en_xs 8 xx_L kc_L cu_L po_L (some .boolean) 1 0 98 16364 (some mu_L_40) 5000 true 1152 alt) = true := by decide +kernel
theorem ck_L_c_40 : ∀ i, i < 1 → (al_L_40.drop i).head?.all (fun alt => rf_run nm_cl nm_ct en_xs 8 xx_L kc_L cu_L po_L (some .boolean) 1 0 98 16364 (some mu_L_40) 5000 true 1152 alt) = true
  | 0, _ => ck_L_b_40_0
  | i + 1, h => absurd h (by omega)
theorem ck_L_n_40 : (al_L_40.drop 1).isEmpty = true := by decide +kernel
theorem ck_L_b_41_0 : (al_L_41.drop 0).head?.all (fun alt => rf_run nm_cl nm_ct en_xs 8 xx_L kc_L cu_L po_L (some .boolean) 1 0 98 16364 (some mu_L_41) 5000 true 1152 alt) = true := by decide +kernel
theorem ck_L_c_41 : ∀ i, i < 1 → (al_L_41.drop i).head?.all (fun alt => rf_run nm_cl nm_ct en_xs 8 xx_L kc_L cu_L po_L (some .boolean) 1 0 98 16364 (some mu_L_41) 5000 true 1152 alt) = true
  | 0, _ => ck_L_b_41_0
  | i + 1, h => absurd h (by omega)
theorem ck_L_n_41 : (al_L_41.drop 1).isEmpty = true := by decide +kernel
theorem ck_L_b_42_0 : (al_L_42.drop 0).head?.all (fun alt => rf_run nm_cl nm_ct en_xs 8 xx_L kc_L cu_L po_L (some .boolean) 1 0 98 16364 (some mu_L_42) 5000 true 1152 alt) = true := by decide +kernel
theorem ck_L_c_42 : ∀ i, i < 1 → (al_L_42.drop i).head?.all (fun alt => rf_run nm_cl nm_ct en_xs 8 xx_L kc_L cu_L po_L (some .boolean) 1 0 98 16364 (some mu_L_42) 5000 true 1152 alt) = true
  | 0, _ => ck_L_b_42_0
  | i + 1, h => absurd h (by omega)
theorem ck_L_n_42 : (al_L_42.drop 1).isEmpty = true := by decide +kernel
theorem ck_L_b_43_0 : (al_L_43.drop 0).head?.all (fun alt => rf_run nm_cl nm_ct en_xs 8 xx_L kc_L cu_L po_L (some .boolean) 1 0 98 16364 (some mu_L_43) 5000 true 1152 alt) = true := by decide +kernel
theorem ck_L_c_43 : ∀ i, i < 1 → (al_L_43.drop i).head?.all (fun alt => rf_run nm_cl nm_ct en_xs 8 xx_L kc_L cu_L po_L (some .boolean) 1 0 98 16364 (some mu_L_43) 5000 true 1152 alt) = true
  | 0, _ => ck_L_b_43_0
  | i + 1, h => absurd h (by omega)
theorem ck_L_n_43 : (al_L_43.drop 1).isEmpty = true := by decide +kernel
theorem ck_L_b_44_0 : (al_L_44.drop 0).head?.all (fun alt => rf_run nm_cl nm_ct en_xs 8 xx_L kc_L cu_L po_L (some .boolean) 1 0 98 16364 (some mu_L_44) 5000 true 1152 alt) = true := by decide +kernel
theorem ck_L_c_44 : ∀ i, i < 1 → (al_L_44.drop i).head?.all (fun alt => rf_run nm_cl nm_ct en_xs 8 xx_L kc_L cu_L po_L (some .boolean) 1 0 98 16364 (some mu_L_44) 5000 true 1152 alt) = true
  | 0, _ => ck_L_b_44_0
  | i + 1, h => absurd h (by omega)
theorem ck_L_n_44 : (al_L_44.drop 1).isEmpty = true := by decide +kernel
theorem ck_L_b_45_0 : (al_L_45.drop 0).head?.all (fun alt => rf_run nm_cl nm_ct en_xs 8 xx_L kc_L cu_L po_L (some .boolean) 1 0 98 16364 (some mu_L_45) 5000 true 1152 alt) = true := by decide +kernel
theorem ck_L_c_45 : ∀ i, i < 1 → (al_L_45.drop i).head?.all (fun alt => rf_run nm_cl nm_ct en_xs 8 xx_L kc_L cu_L po_L (some .boolean) 1 0 98 16364 (some mu_L_45) 5000 true 1152 alt) = true
  | 0, _ => ck_L_b_45_0
  | i + 1, h => absurd h (by omega)
theorem ck_L_n_45 : (al_L_45.drop 1).isEmpty = true := by decide +kernel
theorem ck_L_b_46_0 : (al_L_46.drop 0).head?.all (fun alt => rf_run nm_cl nm_ct en_xs 8 xx_L kc_L cu_L po_L (some .boolean) 1 0 98 16364 (some mu_L_46) 5000 true 1152 alt) = true := by decide +kernel
theorem ck_L_c_46 : ∀ i, i < 1 → (al_L_46.drop i).head?.all (fun alt => rf_run nm_cl nm_ct en_xs 8 xx_L kc_L cu_L po_L (some .boolean) 1 0 98 16364 (some mu_L_46) 5000 true 1152 alt) = true
  | 0, _ => ck_L_b_46_0
  | i + 1, h => absurd h (by omega)
theorem ck_L_n_46 : (al_L_46.drop 1).isEmpty = true := by decide +kernel
