/-! the law: its checks -/
theorem ck_L_b_114_0 : (al_L_114.drop 0).head?.all (fun alt => rf_run nm_cl nm_ct en_xs 8 xx_L kc_L cu_L po_L (some .boolean) 1 0 98 16364 (some mu_L_114) 5000 true 1229 alt) = true := by decide +kernel
theorem ck_L_b_114_1 : (al_L_114.drop 1).head?.all (fun alt => rf_run nm_cl nm_ct en_xs 8 xx_L kc_L cu_L po_L (some .boolean) 1 0 98 16364 (some mu_L_114) 5000 true 1229 alt) = true := by decide +kernel
theorem ck_L_b_114_2 : (al_L_114.drop 2).head?.all (fun alt => rf_run nm_cl nm_ct en_xs 8 xx_L kc_L cu_L po_L (some .boolean) 1 0 98 16364 (some mu_L_114) 5000 true 1229 alt) = true := by decide +kernel
theorem ck_L_b_114_3 : (al_L_114.drop 3).head?.all (fun alt => rf_run nm_cl nm_ct en_xs 8 xx_L kc_L cu_L po_L (some .boolean) 1 0 98 16364 (some mu_L_114) 5000 true 1229 alt) = true := by decide +kernel
theorem ck_L_b_114_4 : (al_L_114.drop 4).head?.all (fun alt => rf_run nm_cl nm_ct en_xs 8 xx_L kc_L cu_L po_L (some .boolean) 1 0 98 16364 (some mu_L_114) 5000 true 1229 alt) = true := by decide +kernel
theorem ck_L_b_114_5 : (al_L_114.drop 5).head?.all (fun alt => rf_run nm_cl nm_ct en_xs 8 xx_L kc_L cu_L po_L (some .boolean) 1 0 98 16364 (some mu_L_114) 5000 true 1229 alt) = true := by decide +kernel
theorem ck_L_b_114_6 : (al_L_114.drop 6).head?.all (fun alt => rf_run nm_cl nm_ct en_xs 8 xx_L kc_L cu_L po_L (some .boolean) 1 0 98 16364 (some mu_L_114) 5000 true 1229 alt) = true := by decide +kernel
theorem ck_L_b_114_7 : (al_L_114.drop 7).head?.all (fun alt => rf_run nm_cl nm_ct en_xs 8 xx_L kc_L cu_L po_L (some .boolean) 1 0 98 16364 (some mu_L_114) 5000 true 1229 alt) = true := by decide +kernel
theorem ck_L_c_114 : ∀ i, i < 8 → (al_L_114.drop i).head?.all (fun alt => rf_run nm_cl nm_ct en_xs 8 xx_L kc_L cu_L po_L (some .boolean) 1 0 98 16364 (some mu_L_114) 5000 true 1229 alt) = true
  | 0, _ => ck_L_b_114_0
  | 1, _ => ck_L_b_114_1
  | 2, _ => ck_L_b_114_2
  | 3, _ => ck_L_b_114_3
  | 4, _ => ck_L_b_114_4
  | 5, _ => ck_L_b_114_5
  | 6, _ => ck_L_b_114_6
  | 7, _ => ck_L_b_114_7
  | i + 8, h => absurd h (by omega)
theorem ck_L_n_114 : (al_L_114.drop 8).isEmpty = true := by decide +kernel
theorem ck_L_b_115_0 : (al_L_115.drop 0).head?.all (fun alt => rf_run nm_cl nm_ct en_xs 8 xx_L kc_L cu_L po_L (some .boolean) 1 0 98 16364 (some mu_L_115) 5000 true 1252 alt) = true := by decide +kernel
theorem ck_L_c_115 : ∀ i, i < 1 → (al_L_115.drop i).head?.all (fun alt => rf_run nm_cl nm_ct en_xs 8 xx_L kc_L cu_L po_L (some .boolean) 1 0 98 16364 (some mu_L_115) 5000 true 1252 alt) = true
  | 0, _ => ck_L_b_115_0
  | i + 1, h => absurd h (by omega)
theorem ck_L_n_115 : (al_L_115.drop 1).isEmpty = true := by decide +kernel
theorem ck_L_b_116_0 : (al_L_116.drop 0).head?.all (fun alt => rf_run nm_cl nm_ct en_xs 8 xx_L kc_L cu_L po_L (some .boolean) 1 0 98 16364 (some mu_L_116) 5000 true 1252 alt) = true := by decide +kernel
theorem ck_L_c_116 : ∀ i, i < 1 → (al_L_116.drop i).head?.all (fun alt => rf_run nm_cl nm_ct en_xs 8 xx_L kc_L cu_L po_L (some .boolean) 1 0 98 16364 (some mu_L_116) 5000 true 1252 alt) = true
  | 0, _ => ck_L_b_116_0
  | i + 1, h => absurd h (by omega)
theorem ck_L_n_116 : (al_L_116.drop 1).isEmpty = true := by decide +kernel
theorem ck_L_b_117_0 : (al_L_117.drop 0).head?.all (fun alt => rf_run nm_cl nm_ct en_xs 8 xx_L kc_L cu_L po_L (some .boolean) 1 0 98 16364 (some mu_L_117) 5000 true 1252 alt) = true := by decide +kernel
theorem ck_L_c_117 : ∀ i, i < 1 → (al_L_117.drop i).head?.all (fun alt => rf_run nm_cl nm_ct en_xs 8 xx_L kc_L cu_L po_L (some .boolean) 1 0 98 16364 (some mu_L_117) 5000 true 1252 alt) = true
  | 0, _ => ck_L_b_117_0
  | i + 1, h => absurd h (by omega)
theorem ck_L_n_117 : (al_L_117.drop 1).isEmpty = true := by decide +kernel
theorem ck_L_b_118_0 : (al_L_118.drop 0).head?.all (fun alt => rf_run nm_cl nm_ct en_xs 8 xx_L kc_L cu_L po_L (some .boolean) 1 0 98 16364 (some mu_L_118) 5000 true 1252 alt) = true := by decide +kernel
theorem ck_L_c_118 : ∀ i, i < 1 → (al_L_118.drop i).head?.all (fun alt => rf_run nm_cl nm_ct en_xs 8 xx_L kc_L cu_L po_L (some .boolean) 1 0 98 16364 (some mu_L_118) 5000 true 1252 alt) = true
  | 0, _ => ck_L_b_118_0
  | i + 1, h => absurd h (by omega)
theorem ck_L_n_118 : (al_L_118.drop 1).isEmpty = true := by decide +kernel
