/-! the law: its checks -/
theorem ck_L_b_71_0 : (al_L_71.drop 0).head?.all (fun alt => rf_run nm_cl nm_ct en_xs 8 xx_L kc_L cu_L po_L (some .boolean) 1 0 98 16364 (some mu_L_71) 5000 true 1157 alt) = true := by decide +kernel
theorem ck_L_c_71 : ∀ i, i < 1 → (al_L_71.drop i).head?.all (fun alt => rf_run nm_cl nm_ct en_xs 8 xx_L kc_L cu_L po_L (some .boolean) 1 0 98 16364 (some mu_L_71) 5000 true 1157 alt) = true
  | 0, _ => ck_L_b_71_0
  | i + 1, h => absurd h (by omega)
theorem ck_L_n_71 : (al_L_71.drop 1).isEmpty = true := by decide +kernel
theorem ck_L_b_72_0 : (al_L_72.drop 0).head?.all (fun alt => rf_run nm_cl nm_ct en_xs 8 xx_L kc_L cu_L po_L (some .boolean) 1 0 98 16364 (some mu_L_72) 5000 true 1176 alt) = true := by decide +kernel
theorem ck_L_c_72 : ∀ i, i < 1 → (al_L_72.drop i).head?.all (fun alt => rf_run nm_cl nm_ct en_xs 8 xx_L kc_L cu_L po_L (some .boolean) 1 0 98 16364 (some mu_L_72) 5000 true 1176 alt) = true
  | 0, _ => ck_L_b_72_0
  | i + 1, h => absurd h (by omega)
theorem ck_L_n_72 : (al_L_72.drop 1).isEmpty = true := by decide +kernel
theorem ck_L_b_73_0 : (al_L_73.drop 0).head?.all (fun alt => rf_run nm_cl nm_ct en_xs 8 xx_L kc_L cu_L po_L (some .boolean) 1 0 98 16364 (some mu_L_73) 5000 true 1176 alt) = true := by decide +kernel
theorem ck_L_c_73 : ∀ i, i < 1 → (al_L_73.drop i).head?.all (fun alt => rf_run nm_cl nm_ct en_xs 8 xx_L kc_L cu_L po_L (some .boolean) 1 0 98 16364 (some mu_L_73) 5000 true 1176 alt) = true
  | 0, _ => ck_L_b_73_0
  | i + 1, h => absurd h (by omega)
theorem ck_L_n_73 : (al_L_73.drop 1).isEmpty = true := by decide +kernel
theorem ck_L_b_74_0 : (al_L_74.drop 0).head?.all (fun alt => rf_run nm_cl nm_ct en_xs 8 xx_L kc_L cu_L po_L (some .boolean) 1 0 98 16364 (some mu_L_74) 5000 true 1176 alt) = true := by decide +kernel
theorem ck_L_c_74 : ∀ i, i < 1 → (al_L_74.drop i).head?.all (fun alt => rf_run nm_cl nm_ct en_xs 8 xx_L kc_L cu_L po_L (some .boolean) 1 0 98 16364 (some mu_L_74) 5000 true 1176 alt) = true
  | 0, _ => ck_L_b_74_0
  | i + 1, h => absurd h (by omega)
theorem ck_L_n_74 : (al_L_74.drop 1).isEmpty = true := by decide +kernel
theorem ck_L_b_75_0 : (al_L_75.drop 0).head?.all (fun alt => rf_run nm_cl nm_ct en_xs 8 xx_L kc_L cu_L po_L (some .boolean) 1 0 98 16364 (some mu_L_75) 5000 true 1176 alt) = true := by decide +kernel
theorem ck_L_c_75 : ∀ i, i < 1 → (al_L_75.drop i).head?.all (fun alt => rf_run nm_cl nm_ct en_xs 8 xx_L kc_L cu_L po_L (some .boolean) 1 0 98 16364 (some mu_L_75) 5000 true 1176 alt) = true
  | 0, _ => ck_L_b_75_0
  | i + 1, h => absurd h (by omega)
theorem ck_L_n_75 : (al_L_75.drop 1).isEmpty = true := by decide +kernel
theorem ck_L_b_76_0 : (al_L_76.drop 0).head?.all (fun alt => rf_run nm_cl nm_ct en_xs 8 xx_L kc_L cu_L po_L (some .boolean) 1 0 98 16364 (some mu_L_76) 5000 true 1176 alt) = true := by decide +kernel
theorem ck_L_c_76 : ∀ i, i < 1 → (al_L_76.drop i).head?.all (fun alt => rf_run nm_cl nm_ct en_xs 8 xx_L kc_L cu_L po_L (some .boolean) 1 0 98 16364 (some mu_L_76) 5000 true 1176 alt) = true
  | 0, _ => ck_L_b_76_0
  | i + 1, h => absurd h (by omega)
theorem ck_L_n_76 : (al_L_76.drop 1).isEmpty = true := by decide +kernel
theorem ck_L_b_77_0 : (al_L_77.drop 0).head?.all (fun alt => rf_run nm_cl nm_ct en_xs 8 xx_L kc_L cu_L po_L (some .boolean) 1 0 98 16364 (some mu_L_77) 5000 true 1176 alt) = true := by decide +kernel
theorem ck_L_c_77 : ∀ i, i < 1 → (al_L_77.drop i).head?.all (fun alt => rf_run nm_cl nm_ct en_xs 8 xx_L kc_L cu_L po_L (some .boolean) 1 0 98 16364 (some mu_L_77) 5000 true 1176 alt) = true
  | 0, _ => ck_L_b_77_0
  | i + 1, h => absurd h (by omega)
theorem ck_L_n_77 : (al_L_77.drop 1).isEmpty = true := by decide +kernel
theorem ck_L_b_78_0 : (al_L_78.drop 0).head?.all (fun alt => rf_run nm_cl nm_ct en_xs 8 xx_L kc_L cu_L po_L (some .boolean) 1 0 98 16364 (some mu_L_78) 5000 true 1180 alt) = true := by decide +kernel
theorem ck_L_c_78 : ∀ i, i < 1 → (al_L_78.drop i).head?.all (fun alt => rf_run nm_cl nm_ct en_xs 8 xx_L kc_L cu_L po_L (some .boolean) 1 0 98 16364 (some mu_L_78) 5000 true 1180 alt) = true
  | 0, _ => ck_L_b_78_0
  | i + 1, h => absurd h (by omega)
theorem ck_L_n_78 : (al_L_78.drop 1).isEmpty = true := by decide +kernel
theorem ck_L_b_79_0 : (al_L_79.drop 0).head?.all (fun alt => rf_run nm_cl nm_ct en_xs 8 xx_L kc_L cu_L po_L (some .boolean) 1 0 98 16364 (some mu_L_79) 5000 true 1213 alt) = true := by decide +kernel
theorem ck_L_c_79 : ∀ i, i < 1 → (al_L_79.drop i).head?.all (fun alt => rf_run nm_cl nm_ct en_xs 8 xx_L kc_L cu_L po_L (some .boolean) 1 0 98 16364 (some mu_L_79) 5000 true 1213 alt) = true
  | 0, _ => ck_L_b_79_0
  | i + 1, h => absurd h (by omega)
theorem ck_L_n_79 : (al_L_79.drop 1).isEmpty = true := by decide +kernel
theorem ck_L_b_80_0 : (al_L_80.drop 0).head?.all (fun alt => rf_run nm_cl nm_ct en_xs 8 xx_L kc_L cu_L po_L (some .boolean) 1 0 98 16364 (some mu_L_80) 5000 true 1256 alt) = true := by decide +kernel
theorem ck_L_c_80 : ∀ i, i < 1 → (al_L_80.drop i).head?.all (fun alt => rf_run nm_cl nm_ct en_xs 8 xx_L kc_L cu_L po_L (some .boolean) 1 0 98 16364 (some mu_L_80) 5000 true 1256 alt) = true
  | 0, _ => ck_L_b_80_0
  | i + 1, h => absurd h (by omega)
theorem ck_L_n_80 : (al_L_80.drop 1).isEmpty = true := by decide +kernel
theorem ck_L_b_81_0 : (al_L_81.drop 0).head?.all (fun alt => rf_run nm_cl nm_ct en_xs 8 xx_L kc_L cu_L po_L (some .boolean) 1 0 98 16364 (some mu_L_81) 5000 true 1329 alt) = true := by decide +kernel
theorem ck_L_c_81 : ∀ i, i < 1 → (al_L_81.drop i).head?.all (fun alt => rf_run nm_cl nm_ct en_xs 8 xx_L kc_L cu_L po_L (some .boolean) 1 0 98 16364 (some mu_L_81) 5000 true 1329 alt) = true
  | 0, _ => ck_L_b_81_0
  | i + 1, h => absurd h (by omega)
theorem ck_L_n_81 : (al_L_81.drop 1).isEmpty = true := by decide +kernel
theorem ck_L_b_82_0 : (al_L_82.drop 0).head?.all (fun alt => rf_run nm_cl nm_ct en_xs 8 xx_L kc_L cu_L po_L (some .boolean) 1 0 98 16364 (some mu_L_82) 5000 true 1362 alt) = true := by decide +kernel
theorem ck_L_c_82 : ∀ i, i < 1 → (al_L_82.drop i).head?.all (fun alt => rf_run nm_cl nm_ct en_xs 8 xx_L kc_L cu_L po_L (some .boolean) 1 0 98 16364 (some mu_L_82) 5000 true 1362 alt) = true
  | 0, _ => ck_L_b_82_0
  | i + 1, h => absurd h (by omega)
theorem ck_L_n_82 : (al_L_82.drop 1).isEmpty = true := by decide +kernel
