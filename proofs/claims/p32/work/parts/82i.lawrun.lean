/-! the law: its checks -/
theorem ck_L_b_83_0 : (al_L_83.drop 0).head?.all (fun alt => rf_run nm_cl nm_ct en_xs 8 xx_L kc_L cu_L po_L (some .boolean) 1 0 98 16364 (some mu_L_83) 5000 true 1425 alt) = true := by decide +kernel
theorem ck_L_c_83 : ∀ i, i < 1 → (al_L_83.drop i).head?.all (fun alt => rf_run nm_cl nm_ct en_xs 8 xx_L kc_L cu_L po_L (some .boolean) 1 0 98 16364 (some mu_L_83) 5000 true 1425 alt) = true
  | 0, _ => ck_L_b_83_0
  | i + 1, h => absurd h (by omega)
theorem ck_L_n_83 : (al_L_83.drop 1).isEmpty = true := by decide +kernel
theorem ck_L_b_84_0 : (al_L_84.drop 0).head?.all (fun alt => rf_run nm_cl nm_ct en_xs 8 xx_L kc_L cu_L po_L (some .boolean) 1 0 98 16364 (some mu_L_84) 5000 true 1458 alt) = true := by decide +kernel
theorem ck_L_c_84 : ∀ i, i < 1 → (al_L_84.drop i).head?.all (fun alt => rf_run nm_cl nm_ct en_xs 8 xx_L kc_L cu_L po_L (some .boolean) 1 0 98 16364 (some mu_L_84) 5000 true 1458 alt) = true
  | 0, _ => ck_L_b_84_0
  | i + 1, h => absurd h (by omega)
theorem ck_L_n_84 : (al_L_84.drop 1).isEmpty = true := by decide +kernel
