/-! the law: its checks -/
theorem ck_L_b_47_0 : (al_L_47.drop 0).head?.all (fun alt => rf_run nm_cl nm_ct en_xs 8 xx_L kc_L cu_L po_L (some .boolean) 1 0 98 16364 (some mu_L_47) 5000 true 1152 alt) = true := by decide +kernel
theorem ck_L_c_47 : ∀ i, i < 1 → (al_L_47.drop i).head?.all (fun alt => rf_run nm_cl nm_ct en_xs 8 xx_L kc_L cu_L po_L (some .boolean) 1 0 98 16364 (some mu_L_47) 5000 true 1152 alt) = true
  | 0, _ => ck_L_b_47_0
  | i + 1, h => absurd h (by omega)
theorem ck_L_n_47 : (al_L_47.drop 1).isEmpty = true := by decide +kernel
theorem ck_L_b_48_0 : (al_L_48.drop 0).head?.all (fun alt => rf_run nm_cl nm_ct en_xs 8 xx_L kc_L cu_L po_L (some .boolean) 1 0 98 16364 (some mu_L_48) 5000 true 1152 alt) = true := by decide +kernel
theorem ck_L_c_48 : ∀ i, i < 1 → (al_L_48.drop i).head?.all (fun alt => rf_run nm_cl nm_ct en_xs 8 xx_L kc_L cu_L po_L (some .boolean) 1 0 98 16364 (some mu_L_48) 5000 true 1152 alt) = true
  | 0, _ => ck_L_b_48_0
  | i + 1, h => absurd h (by omega)
theorem ck_L_n_48 : (al_L_48.drop 1).isEmpty = true := by decide +kernel
theorem ck_L_b_49_0 : (al_L_49.drop 0).head?.all (fun alt => rf_run nm_cl nm_ct en_xs 8 xx_L kc_L cu_L po_L (some .boolean) 1 0 98 16364 (some mu_L_49) 5000 true 1152 alt) = true := by decide +kernel
theorem ck_L_c_49 : ∀ i, i < 1 → (al_L_49.drop i).head?.all (fun alt => rf_run nm_cl nm_ct en_xs 8 xx_L kc_L cu_L po_L (some .boolean) 1 0 98 16364 (some mu_L_49) 5000 true 1152 alt) = true
  | 0, _ => ck_L_b_49_0
  | i + 1, h => absurd h (by omega)
theorem ck_L_n_49 : (al_L_49.drop 1).isEmpty = true := by decide +kernel
theorem ck_L_b_50_0 : (al_L_50.drop 0).head?.all (fun alt => rf_run nm_cl nm_ct en_xs 8 xx_L kc_L cu_L po_L (some .boolean) 1 0 98 16364 (some mu_L_50) 5000 true 1152 alt) = true := by decide +kernel
theorem ck_L_c_50 : ∀ i, i < 1 → (al_L_50.drop i).head?.all (fun alt => rf_run nm_cl nm_ct en_xs 8 xx_L kc_L cu_L po_L (some .boolean) 1 0 98 16364 (some mu_L_50) 5000 true 1152 alt) = true
  | 0, _ => ck_L_b_50_0
  | i + 1, h => absurd h (by omega)
theorem ck_L_n_50 : (al_L_50.drop 1).isEmpty = true := by decide +kernel
theorem ck_L_b_51_0 : (al_L_51.drop 0).head?.all (fun alt => rf_run nm_cl nm_ct en_xs 8 xx_L kc_L cu_L po_L (some .boolean) 1 0 98 16364 (some mu_L_51) 5000 true 1152 alt) = true := by decide +kernel
theorem ck_L_c_51 : ∀ i, i < 1 → (al_L_51.drop i).head?.all (fun alt => rf_run nm_cl nm_ct en_xs 8 xx_L kc_L cu_L po_L (some .boolean) 1 0 98 16364 (some mu_L_51) 5000 true 1152 alt) = true
  | 0, _ => ck_L_b_51_0
  | i + 1, h => absurd h (by omega)
theorem ck_L_n_51 : (al_L_51.drop 1).isEmpty = true := by decide +kernel
theorem ck_L_b_52_0 : (al_L_52.drop 0).head?.all (fun alt => rf_run nm_cl nm_ct en_xs 8 xx_L kc_L cu_L po_L (some .boolean) 1 0 98 16364 (some mu_L_52) 5000 true 1152 alt) = true := by decide +kernel
theorem ck_L_c_52 : ∀ i, i < 1 → (al_L_52.drop i).head?.all (fun alt => rf_run nm_cl nm_ct en_xs 8 xx_L kc_L cu_L po_L (some .boolean) 1 0 98 16364 (some mu_L_52) 5000 true 1152 alt) = true
  | 0, _ => ck_L_b_52_0
  | i + 1, h => absurd h (by omega)
theorem ck_L_n_52 : (al_L_52.drop 1).isEmpty = true := by decide +kernel
theorem ck_L_b_53_0 : (al_L_53.drop 0).head?.all (fun alt => rf_run nm_cl nm_ct en_xs 8 xx_L kc_L cu_L po_L (some .boolean) 1 0 98 16364 (some mu_L_53) 5000 true 1152 alt) = true := by decide +kernel
theorem ck_L_c_53 : ∀ i, i < 1 → (al_L_53.drop i).head?.all (fun alt => rf_run nm_cl nm_ct en_xs 8 xx_L kc_L cu_L po_L (some .boolean) 1 0 98 16364 (some mu_L_53) 5000 true 1152 alt) = true
  | 0, _ => ck_L_b_53_0
  | i + 1, h => absurd h (by omega)
theorem ck_L_n_53 : (al_L_53.drop 1).isEmpty = true := by decide +kernel
theorem ck_L_b_54_0 : (al_L_54.drop 0).head?.all (fun alt => rf_run nm_cl nm_ct en_xs 8 xx_L kc_L cu_L po_L (some .boolean) 1 0 98 16364 (some mu_L_54) 5000 true 1152 alt) = true := by decide +kernel
theorem ck_L_c_54 : ∀ i, i < 1 → (al_L_54.drop i).head?.all (fun alt => rf_run nm_cl nm_ct en_xs 8 xx_L kc_L cu_L po_L (some .boolean) 1 0 98 16364 (some mu_L_54) 5000 true 1152 alt) = true
  | 0, _ => ck_L_b_54_0
  | i + 1, h => absurd h (by omega)
theorem ck_L_n_54 : (al_L_54.drop 1).isEmpty = true := by decide +kernel
theorem ck_L_b_55_0 : (al_L_55.drop 0).head?.all (fun alt => rf_run nm_cl nm_ct en_xs 8 xx_L kc_L cu_L po_L (some .boolean) 1 0 98 16364 (some mu_L_55) 5000 true 1152 alt) = true := by decide +kernel
theorem ck_L_c_55 : ∀ i, i < 1 → (al_L_55.drop i).head?.all (fun alt => rf_run nm_cl nm_ct en_xs 8 xx_L kc_L cu_L po_L (some .boolean) 1 0 98 16364 (some mu_L_55) 5000 true 1152 alt) = true
  | 0, _ => ck_L_b_55_0
  | i + 1, h => absurd h (by omega)
theorem ck_L_n_55 : (al_L_55.drop 1).isEmpty = true := by decide +kernel
theorem ck_L_b_56_0 : (al_L_56.drop 0).head?.all (fun alt => rf_run nm_cl nm_ct en_xs 8 xx_L kc_L cu_L po_L (some .boolean) 1 0 98 16364 (some mu_L_56) 5000 true 1152 alt) = true := by decide +kernel
theorem ck_L_c_56 : ∀ i, i < 1 → (al_L_56.drop i).head?.all (fun alt => rf_run nm_cl nm_ct en_xs 8 xx_L kc_L cu_L po_L (some .boolean) 1 0 98 16364 (some mu_L_56) 5000 true 1152 alt) = true
  | 0, _ => ck_L_b_56_0
  | i + 1, h => absurd h (by omega)
theorem ck_L_n_56 : (al_L_56.drop 1).isEmpty = true := by decide +kernel
theorem ck_L_b_57_0 : (al_L_57.drop 0).head?.all (fun alt => rf_run nm_cl nm_ct en_xs 8 xx_L kc_L cu_L po_L (some .boolean) 1 0 98 16364 (some mu_L_57) 5000 true 1152 alt) = true := by decide +kernel
theorem ck_L_c_57 : ∀ i, i < 1 → (al_L_57.drop i).head?.all (fun alt => rf_run nm_cl nm_ct en_xs 8 xx_L kc_L cu_L po_L (some .boolean) 1 0 98 16364 (some mu_L_57) 5000 true 1152 alt) = true
  | 0, _ => ck_L_b_57_0
  | i + 1, h => absurd h (by omega)
theorem ck_L_n_57 : (al_L_57.drop 1).isEmpty = true := by decide +kernel
theorem ck_L_b_58_0 : (al_L_58.drop 0).head?.all (fun alt => rf_run nm_cl nm_ct en_xs 8 xx_L kc_L cu_L po_L (some .boolean) 1 0 98 16364 (some mu_L_58) 5000 true 1152 alt) = true := by decide +kernel
theorem ck_L_c_58 : ∀ i, i < 1 → (al_L_58.drop i).head?.all (fun alt => rf_run nm_cl nm_ct en_xs 8 xx_L kc_L cu_L po_L (some .boolean) 1 0 98 16364 (some mu_L_58) 5000 true 1152 alt) = true
  | 0, _ => ck_L_b_58_0
  | i + 1, h => absurd h (by omega)
theorem ck_L_n_58 : (al_L_58.drop 1).isEmpty = true := by decide +kernel
