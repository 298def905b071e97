/-! the law: its checks -/
theorem ck_L_b_106_3 : (al_L_106.drop 3).head?.all (fun alt => rf_run nm_cl nm_ct en_xs 8 xx_L kc_L cu_L po_L (some .boolean) 1 0 98 16364 (some mu_L_106) 5000 true 1191 alt) = true := by decide +kernel
theorem ck_L_b_106_4 : (al_L_106.drop 4).head?.all (fun alt => rf_run nm_cl nm_ct en_xs 8 xx_L kc_L cu_L po_L (some .boolean) 1 0 98 16364 (some mu_L_106) 5000 true 1191 alt) = true := by decide +kernel
theorem ck_L_b_106_5 : (al_L_106.drop 5).head?.all (fun alt => rf_run nm_cl nm_ct en_xs 8 xx_L kc_L cu_L po_L (some .boolean) 1 0 98 16364 (some mu_L_106) 5000 true 1191 alt) = true := by decide +kernel
theorem ck_L_b_106_6 : (al_L_106.drop 6).head?.all (fun alt => rf_run nm_cl nm_ct en_xs 8 xx_L kc_L cu_L po_L (some .boolean) 1 0 98 16364 (some mu_L_106) 5000 true 1191 alt) = true := by decide +kernel
theorem ck_L_b_106_7 : (al_L_106.drop 7).head?.all (fun alt => rf_run nm_cl nm_ct en_xs 8 xx_L kc_L cu_L po_L (some .boolean) 1 0 98 16364 (some mu_L_106) 5000 true 1191 alt) = true := by decide +kernel
theorem ck_L_c_106 : ∀ i, i < 8 → (al_L_106.drop i).head?.all (fun alt => rf_run nm_cl nm_ct en_xs 8 xx_L kc_L cu_L po_L (some .boolean) 1 0 98 16364 (some mu_L_106) 5000 true 1191 alt) = true
  | 0, _ => ck_L_b_106_0
  | 1, _ => ck_L_b_106_1
  | 2, _ => ck_L_b_106_2
  | 3, _ => ck_L_b_106_3
  | 4, _ => ck_L_b_106_4
  | 5, _ => ck_L_b_106_5
  | 6, _ => ck_L_b_106_6
  | 7, _ => ck_L_b_106_7
  | i + 8, h => absurd h (by omega)
theorem ck_L_n_106 : (al_L_106.drop 8).isEmpty = true := by decide +kernel
theorem ck_L_b_107_0 : (al_L_107.drop 0).head?.all (fun alt => rf_run nm_cl nm_ct en_xs 8 xx_L kc_L cu_L po_L (some .boolean) 1 0 98 16364 (some mu_L_107) 5000 true 1194 alt) = true := by decide +kernel
theorem ck_L_c_107 : ∀ i, i < 1 → (al_L_107.drop i).head?.all (fun alt => rf_run nm_cl nm_ct en_xs 8 xx_L kc_L cu_L po_L (some .boolean) 1 0 98 16364 (some mu_L_107) 5000 true 1194 alt) = true
  | 0, _ => ck_L_b_107_0
  | i + 1, h => absurd h (by omega)
theorem ck_L_n_107 : (al_L_107.drop 1).isEmpty = true := by decide +kernel
theorem ck_L_b_108_0 : (al_L_108.drop 0).head?.all (fun alt => rf_run nm_cl nm_ct en_xs 8 xx_L kc_L cu_L po_L (some .boolean) 1 0 98 16364 (some mu_L_108) 5000 true 1194 alt) = true := by decide +kernel
theorem ck_L_c_108 : ∀ i, i < 1 → (al_L_108.drop i).head?.all (fun alt => rf_run nm_cl nm_ct en_xs 8 xx_L kc_L cu_L po_L (some .boolean) 1 0 98 16364 (some mu_L_108) 5000 true 1194 alt) = true
  | 0, _ => ck_L_b_108_0
  | i + 1, h => absurd h (by omega)
theorem ck_L_n_108 : (al_L_108.drop 1).isEmpty = true := by decide +kernel
theorem ck_L_b_109_0 : (al_L_109.drop 0).head?.all (fun alt => rf_run nm_cl nm_ct en_xs 8 xx_L kc_L cu_L po_L (some .boolean) 1 0 98 16364 (some mu_L_109) 5000 true 1194 alt) = true := by decide +kernel
theorem ck_L_c_109 : ∀ i, i < 1 → (al_L_109.drop i).head?.all (fun alt => rf_run nm_cl nm_ct en_xs 8 xx_L kc_L cu_L po_L (some .boolean) 1 0 98 16364 (some mu_L_109) 5000 true 1194 alt) = true
  | 0, _ => ck_L_b_109_0
  | i + 1, h => absurd h (by omega)
theorem ck_L_n_109 : (al_L_109.drop 1).isEmpty = true := by decide +kernel
theorem ck_L_b_110_0 : (al_L_110.drop 0).head?.all (fun alt => rf_run nm_cl nm_ct en_xs 8 xx_L kc_L cu_L po_L (some .boolean) 1 0 98 16364 (some mu_L_110) 5000 true 1194 alt) = true := by decide +kernel
theorem ck_L_c_110 : ∀ i, i < 1 → (al_L_110.drop i).head?.all (fun alt => rf_run nm_cl nm_ct en_xs 8 xx_L kc_L cu_L po_L (some .boolean) 1 0 98 16364 (some mu_L_110) 5000 true 1194 alt) = true
  | 0, _ => ck_L_b_110_0
  | i + 1, h => absurd h (by omega)
theorem ck_L_n_110 : (al_L_110.drop 1).isEmpty = true := by decide +kernel
theorem ck_L_b_111_0 : (al_L_111.drop 0).head?.all (fun alt => rf_run nm_cl nm_ct en_xs 8 xx_L kc_L cu_L po_L (some .boolean) 1 0 98 16364 (some mu_L_111) 5000 true 1194 alt) = true := by decide +kernel
theorem ck_L_c_111 : ∀ i, i < 1 → (al_L_111.drop i).head?.all (fun alt => rf_run nm_cl nm_ct en_xs 8 xx_L kc_L cu_L po_L (some .boolean) 1 0 98 16364 (some mu_L_111) 5000 true 1194 alt) = true
  | 0, _ => ck_L_b_111_0
  | i + 1, h => absurd h (by omega)
theorem ck_L_n_111 : (al_L_111.drop 1).isEmpty = true := by decide +kernel
theorem ck_L_b_112_0 : (al_L_112.drop 0).head?.all (fun alt => rf_run nm_cl nm_ct en_xs 8 xx_L kc_L cu_L po_L (some .boolean) 1 0 98 16364 (some mu_L_112) 5000 true 1194 alt) = true := by decide +kernel
theorem ck_L_c_112 : ∀ i, i < 1 → (al_L_112.drop i).head?.all (fun alt => rf_run nm_cl nm_ct en_xs 8 xx_L kc_L cu_L po_L (some .boolean) 1 0 98 16364 (some mu_L_112) 5000 true 1194 alt) = true
  | 0, _ => ck_L_b_112_0
  | i + 1, h => absurd h (by omega)
theorem ck_L_n_112 : (al_L_112.drop 1).isEmpty = true := by decide +kernel
theorem ck_L_b_113_0 : (al_L_113.drop 0).head?.all (fun alt => rf_run nm_cl nm_ct en_xs 8 xx_L kc_L cu_L po_L (some .boolean) 1 0 98 16364 (some mu_L_113) 5000 true 1194 alt) = true := by decide +kernel
theorem ck_L_c_113 : ∀ i, i < 1 → (al_L_113.drop i).head?.all (fun alt => rf_run nm_cl nm_ct en_xs 8 xx_L kc_L cu_L po_L (some .boolean) 1 0 98 16364 (some mu_L_113) 5000 true 1194 alt) = true
  | 0, _ => ck_L_b_113_0
  | i + 1, h => absurd h (by omega)
theorem ck_L_n_113 : (al_L_113.drop 1).isEmpty = true := by decide +kernel
