/-! the law: its checks -/
theorem ck_L_b_76_0 : (al_L_76.drop 0).head?.all (fun alt => rf_run nm_cl nm_ct en_xs 8 xx_L kc_L cu_L po_L (some .boolean) 1 0 98 16364 (some mu_L_76) 5000 true 1229 alt) = true := by decide +kernel
theorem ck_L_b_76_1 : (al_L_76.drop 1).head?.all (fun alt => rf_run nm_cl nm_ct en_xs 8 xx_L kc_L cu_L po_L (some .boolean) 1 0 98 16364 (some mu_L_76) 5000 true 1229 alt) = true := by decide +kernel
theorem ck_L_b_76_2 : (al_L_76.drop 2).head?.all (fun alt => rf_run nm_cl nm_ct en_xs 8 xx_L kc_L cu_L po_L (some .boolean) 1 0 98 16364 (some mu_L_76) 5000 true 1229 alt) = true := by decide +kernel
theorem ck_L_b_76_3 : (al_L_76.drop 3).head?.all (fun alt => rf_run nm_cl nm_ct en_xs 8 xx_L kc_L cu_L po_L (some .boolean) 1 0 98 16364 (some mu_L_76) 5000 true 1229 alt) = true := by decide +kernel
theorem ck_L_b_76_4 : (al_L_76.drop 4).head?.all (fun alt => rf_run nm_cl nm_ct en_xs 8 xx_L kc_L cu_L po_L (some .boolean) 1 0 98 16364 (some mu_L_76) 5000 true 1229 alt) = true := by decide +kernel
theorem ck_L_b_76_5 : (al_L_76.drop 5).head?.all (fun alt => rf_run nm_cl nm_ct en_xs 8 xx_L kc_L cu_L po_L (some .boolean) 1 0 98 16364 (some mu_L_76) 5000 true 1229 alt) = true := by decide +kernel
theorem ck_L_b_76_6 : (al_L_76.drop 6).head?.all (fun alt => rf_run nm_cl nm_ct en_xs 8 xx_L kc_L cu_L po_L (some .boolean) 1 0 98 16364 (some mu_L_76) 5000 true 1229 alt) = true := by decide +kernel
theorem ck_L_b_76_7 : (al_L_76.drop 7).head?.all (fun alt => rf_run nm_cl nm_ct en_xs 8 xx_L kc_L cu_L po_L (some .boolean) 1 0 98 16364 (some mu_L_76) 5000 true 1229 alt) = true := by decide +kernel
theorem ck_L_c_76 : ∀ i, i < 8 → (al_L_76.drop i).head?.all (fun alt => rf_run nm_cl nm_ct en_xs 8 xx_L kc_L cu_L po_L (some .boolean) 1 0 98 16364 (some mu_L_76) 5000 true 1229 alt) = true
  | 0, _ => ck_L_b_76_0
  | 1, _ => ck_L_b_76_1
  | 2, _ => ck_L_b_76_2
  | 3, _ => ck_L_b_76_3
  | 4, _ => ck_L_b_76_4
  | 5, _ => ck_L_b_76_5
  | 6, _ => ck_L_b_76_6
  | 7, _ => ck_L_b_76_7
  | i + 8, h => absurd h (by omega)
theorem ck_L_n_76 : (al_L_76.drop 8).isEmpty = true := by decide +kernel
theorem ck_L_b_77_0 : (al_L_77.drop 0).head?.all (fun alt => rf_run nm_cl nm_ct en_xs 8 xx_L kc_L cu_L po_L (some .boolean) 1 0 98 16364 (some mu_L_77) 5000 true 1252 alt) = true := by decide +kernel
theorem ck_L_c_77 : ∀ i, i < 1 → (al_L_77.drop i).head?.all (fun alt => rf_run nm_cl nm_ct en_xs 8 xx_L kc_L cu_L po_L (some .boolean) 1 0 98 16364 (some mu_L_77) 5000 true 1252 alt) = true
  | 0, _ => ck_L_b_77_0
  | i + 1, h => absurd h (by omega)
theorem ck_L_n_77 : (al_L_77.drop 1).isEmpty = true := by decide +kernel
theorem ck_L_b_78_0 : (al_L_78.drop 0).head?.all (fun alt => rf_run nm_cl nm_ct en_xs 8 xx_L kc_L cu_L po_L (some .boolean) 1 0 98 16364 (some mu_L_78) 5000 true 1252 alt) = true := by decide +kernel
theorem ck_L_c_78 : ∀ i, i < 1 → (al_L_78.drop i).head?.all (fun alt => rf_run nm_cl nm_ct en_xs 8 xx_L kc_L cu_L po_L (some .boolean) 1 0 98 16364 (some mu_L_78) 5000 true 1252 alt) = true
  | 0, _ => ck_L_b_78_0
  | i + 1, h => absurd h (by omega)
theorem ck_L_n_78 : (al_L_78.drop 1).isEmpty = true := by decide +kernel
theorem ck_L_b_79_0 : (al_L_79.drop 0).head?.all (fun alt => rf_run nm_cl nm_ct en_xs 8 xx_L kc_L cu_L po_L (some .boolean) 1 0 98 16364 (some mu_L_79) 5000 true 1252 alt) = true := by decide +kernel
theorem ck_L_c_79 : ∀ i, i < 1 → (al_L_79.drop i).head?.all (fun alt => rf_run nm_cl nm_ct en_xs 8 xx_L kc_L cu_L po_L (some .boolean) 1 0 98 16364 (some mu_L_79) 5000 true 1252 alt) = true
  | 0, _ => ck_L_b_79_0
  | i + 1, h => absurd h (by omega)
theorem ck_L_n_79 : (al_L_79.drop 1).isEmpty = true := by decide +kernel
theorem ck_L_b_80_0 : (al_L_80.drop 0).head?.all (fun alt => rf_run nm_cl nm_ct en_xs 8 xx_L kc_L cu_L po_L (some .boolean) 1 0 98 16364 (some mu_L_80) 5000 true 1252 alt) = true := by decide +kernel
theorem ck_L_c_80 : ∀ i, i < 1 → (al_L_80.drop i).head?.all (fun alt => rf_run nm_cl nm_ct en_xs 8 xx_L kc_L cu_L po_L (some .boolean) 1 0 98 16364 (some mu_L_80) 5000 true 1252 alt) = true
  | 0, _ => ck_L_b_80_0
  | i + 1, h => absurd h (by omega)
theorem ck_L_n_80 : (al_L_80.drop 1).isEmpty = true := by decide +kernel
