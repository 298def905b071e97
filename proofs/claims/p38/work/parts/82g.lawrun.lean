/-! the law: its checks -/
theorem ck_L_b_50_2 : (al_L_50.drop 2).head?.all (fun alt => rf_run nm_cl nm_ct en_xs 8 xx_L kc_L cu_L po_L (some .boolean) 1 0 98 16364 (some mu_L_50) 5000 true 1229 alt) = true := by decide +kernel
theorem ck_L_b_50_3 : (al_L_50.drop 3).head?.all (fun alt => rf_run nm_cl nm_ct en_xs 8 xx_L kc_L cu_L po_L (some .boolean) 1 0 98 16364 (some mu_L_50) 5000 true 1229 alt) = true := by decide +kernel
theorem ck_L_b_50_4 : (al_L_50.drop 4).head?.all (fun alt => rf_run nm_cl nm_ct en_xs 8 xx_L kc_L cu_L po_L (some .boolean) 1 0 98 16364 (some mu_L_50) 5000 true 1229 alt) = true := by decide +kernel
theorem ck_L_b_50_5 : (al_L_50.drop 5).head?.all (fun alt => rf_run nm_cl nm_ct en_xs 8 xx_L kc_L cu_L po_L (some .boolean) 1 0 98 16364 (some mu_L_50) 5000 true 1229 alt) = true := by decide +kernel
theorem ck_L_b_50_6 : (al_L_50.drop 6).head?.all (fun alt => rf_run nm_cl nm_ct en_xs 8 xx_L kc_L cu_L po_L (some .boolean) 1 0 98 16364 (some mu_L_50) 5000 true 1229 alt) = true := by decide +kernel
theorem ck_L_b_50_7 : (al_L_50.drop 7).head?.all (fun alt => rf_run nm_cl nm_ct en_xs 8 xx_L kc_L cu_L po_L (some .boolean) 1 0 98 16364 (some mu_L_50) 5000 true 1229 alt) = true := by decide +kernel
theorem ck_L_c_50 : ∀ i, i < 8 → (al_L_50.drop i).head?.all (fun alt => rf_run nm_cl nm_ct en_xs 8 xx_L kc_L cu_L po_L (some .boolean) 1 0 98 16364 (some mu_L_50) 5000 true 1229 alt) = true
  | 0, _ => ck_L_b_50_0
  | 1, _ => ck_L_b_50_1
  | 2, _ => ck_L_b_50_2
  | 3, _ => ck_L_b_50_3
  | 4, _ => ck_L_b_50_4
  | 5, _ => ck_L_b_50_5
  | 6, _ => ck_L_b_50_6
  | 7, _ => ck_L_b_50_7
  | i + 8, h => absurd h (by omega)
theorem ck_L_n_50 : (al_L_50.drop 8).isEmpty = true := by decide +kernel
theorem ck_L_b_51_0 : (al_L_51.drop 0).head?.all (fun alt => rf_run nm_cl nm_ct en_xs 8 xx_L kc_L cu_L po_L (some .boolean) 1 0 98 16364 (some mu_L_51) 5000 true 1252 alt) = true := by decide +kernel
theorem ck_L_c_51 : ∀ i, i < 1 → (al_L_51.drop i).head?.all (fun alt => rf_run nm_cl nm_ct en_xs 8 xx_L kc_L cu_L po_L (some .boolean) 1 0 98 16364 (some mu_L_51) 5000 true 1252 alt) = true
  | 0, _ => ck_L_b_51_0
  | i + 1, h => absurd h (by omega)
theorem ck_L_n_51 : (al_L_51.drop 1).isEmpty = true := by decide +kernel
theorem ck_L_b_52_0 : (al_L_52.drop 0).head?.all (fun alt => rf_run nm_cl nm_ct en_xs 8 xx_L kc_L cu_L po_L (some .boolean) 1 0 98 16364 (some mu_L_52) 5000 true 1252 alt) = true := by decide +kernel
theorem ck_L_c_52 : ∀ i, i < 1 → (al_L_52.drop i).head?.all (fun alt => rf_run nm_cl nm_ct en_xs 8 xx_L kc_L cu_L po_L (some .boolean) 1 0 98 16364 (some mu_L_52) 5000 true 1252 alt) = true
  | 0, _ => ck_L_b_52_0
  | i + 1, h => absurd h (by omega)
theorem ck_L_n_52 : (al_L_52.drop 1).isEmpty = true := by decide +kernel
theorem ck_L_b_53_0 : (al_L_53.drop 0).head?.all (fun alt => rf_run nm_cl nm_ct en_xs 8 xx_L kc_L cu_L po_L (some .boolean) 1 0 98 16364 (some mu_L_53) 5000 true 1252 alt) = true := by decide +kernel
theorem ck_L_c_53 : ∀ i, i < 1 → (al_L_53.drop i).head?.all (fun alt => rf_run nm_cl nm_ct en_xs 8 xx_L kc_L cu_L po_L (some .boolean) 1 0 98 16364 (some mu_L_53) 5000 true 1252 alt) = true
  | 0, _ => ck_L_b_53_0
  | i + 1, h => absurd h (by omega)
theorem ck_L_n_53 : (al_L_53.drop 1).isEmpty = true := by decide +kernel
theorem ck_L_b_54_0 : (al_L_54.drop 0).head?.all (fun alt => rf_run nm_cl nm_ct en_xs 8 xx_L kc_L cu_L po_L (some .boolean) 1 0 98 16364 (some mu_L_54) 5000 true 1252 alt) = true := by decide +kernel
theorem ck_L_c_54 : ∀ i, i < 1 → (al_L_54.drop i).head?.all (fun alt => rf_run nm_cl nm_ct en_xs 8 xx_L kc_L cu_L po_L (some .boolean) 1 0 98 16364 (some mu_L_54) 5000 true 1252 alt) = true
  | 0, _ => ck_L_b_54_0
  | i + 1, h => absurd h (by omega)
theorem ck_L_n_54 : (al_L_54.drop 1).isEmpty = true := by decide +kernel
theorem ck_L_b_55_0 : (al_L_55.drop 0).head?.all (fun alt => rf_run nm_cl nm_ct en_xs 8 xx_L kc_L cu_L po_L (some .boolean) 1 0 98 16364 (some mu_L_55) 5000 true 1252 alt) = true := by decide +kernel
theorem ck_L_c_55 : ∀ i, i < 1 → (al_L_55.drop i).head?.all (fun alt => rf_run nm_cl nm_ct en_xs 8 xx_L kc_L cu_L po_L (some .boolean) 1 0 98 16364 (some mu_L_55) 5000 true 1252 alt) = true
  | 0, _ => ck_L_b_55_0
  | i + 1, h => absurd h (by omega)
theorem ck_L_n_55 : (al_L_55.drop 1).isEmpty = true := by decide +kernel
theorem ck_L_b_56_0 : (al_L_56.drop 0).head?.all (fun alt => rf_run nm_cl nm_ct en_xs 8 xx_L kc_L cu_L po_L (some .boolean) 1 0 98 16364 (some mu_L_56) 5000 true 1252 alt) = true := by decide +kernel
theorem ck_L_c_56 : ∀ i, i < 1 → (al_L_56.drop i).head?.all (fun alt => rf_run nm_cl nm_ct en_xs 8 xx_L kc_L cu_L po_L (some .boolean) 1 0 98 16364 (some mu_L_56) 5000 true 1252 alt) = true
  | 0, _ => ck_L_b_56_0
  | i + 1, h => absurd h (by omega)
theorem ck_L_n_56 : (al_L_56.drop 1).isEmpty = true := by decide +kernel
