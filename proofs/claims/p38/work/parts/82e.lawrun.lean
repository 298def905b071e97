/-! the law: its checks -/
theorem ck_L_b_35_0 : (al_L_35.drop 0).head?.all (fun alt => rf_run nm_cl nm_ct en_xs 8 xx_L kc_L cu_L po_L (some .boolean) 1 0 98 16364 (some mu_L_35) 5000 true 1191 alt) = true := by decide +kernel
theorem ck_L_b_35_1 : (al_L_35.drop 1).head?.all (fun alt => rf_run nm_cl nm_ct en_xs 8 xx_L kc_L cu_L po_L (some .boolean) 1 0 98 16364 (some mu_L_35) 5000 true 1191 alt) = true := by decide +kernel
theorem ck_L_b_35_2 : (al_L_35.drop 2).head?.all (fun alt => rf_run nm_cl nm_ct en_xs 8 xx_L kc_L cu_L po_L (some .boolean) 1 0 98 16364 (some mu_L_35) 5000 true 1191 alt) = true := by decide +kernel
theorem ck_L_b_35_3 : (al_L_35.drop 3).head?.all (fun alt => rf_run nm_cl nm_ct en_xs 8 xx_L kc_L cu_L po_L (some .boolean) 1 0 98 16364 (some mu_L_35) 5000 true 1191 alt) = true := by decide +kernel
theorem ck_L_b_35_4 : (al_L_35.drop 4).head?.all (fun alt => rf_run nm_cl nm_ct en_xs 8 xx_L kc_L cu_L po_L (some .boolean) 1 0 98 16364 (some mu_L_35) 5000 true 1191 alt) = true := by decide +kernel
theorem ck_L_b_35_5 : (al_L_35.drop 5).head?.all (fun alt => rf_run nm_cl nm_ct en_xs 8 xx_L kc_L cu_L po_L (some .boolean) 1 0 98 16364 (some mu_L_35) 5000 true 1191 alt) = true := by decide +kernel
theorem ck_L_b_35_6 : (al_L_35.drop 6).head?.all (fun alt => rf_run nm_cl nm_ct en_xs 8 xx_L kc_L cu_L po_L (some .boolean) 1 0 98 16364 (some mu_L_35) 5000 true 1191 alt) = true := by decide +kernel
theorem ck_L_b_35_7 : (al_L_35.drop 7).head?.all (fun alt => rf_run nm_cl nm_ct en_xs 8 xx_L kc_L cu_L po_L (some .boolean) 1 0 98 16364 (some mu_L_35) 5000 true 1191 alt) = true := by decide +kernel
theorem ck_L_c_35 : ∀ i, i < 8 → (al_L_35.drop i).head?.all (fun alt => rf_run nm_cl nm_ct en_xs 8 xx_L kc_L cu_L po_L (some .boolean) 1 0 98 16364 (some mu_L_35) 5000 true 1191 alt) = true
  | 0, _ => ck_L_b_35_0
  | 1, _ => ck_L_b_35_1
  | 2, _ => ck_L_b_35_2
  | 3, _ => ck_L_b_35_3
  | 4, _ => ck_L_b_35_4
  | 5, _ => ck_L_b_35_5
  | 6, _ => ck_L_b_35_6
  | 7, _ => ck_L_b_35_7
  | i + 8, h => absurd h (by omega)
theorem ck_L_n_35 : (al_L_35.drop 8).isEmpty = true := by decide +kernel
theorem ck_L_b_36_0 : (al_L_36.drop 0).head?.all (fun alt => rf_run nm_cl nm_ct en_xs 8 xx_L kc_L cu_L po_L (some .boolean) 1 0 98 16364 (some mu_L_36) 5000 true 1194 alt) = true := by decide +kernel
theorem ck_L_c_36 : ∀ i, i < 1 → (al_L_36.drop i).head?.all (fun alt => rf_run nm_cl nm_ct en_xs 8 xx_L kc_L cu_L po_L (some .boolean) 1 0 98 16364 (some mu_L_36) 5000 true 1194 alt) = true
  | 0, _ => ck_L_b_36_0
  | i + 1, h => absurd h (by omega)
theorem ck_L_n_36 : (al_L_36.drop 1).isEmpty = true := by decide +kernel
theorem ck_L_b_37_0 : (al_L_37.drop 0).head?.all (fun alt => rf_run nm_cl nm_ct en_xs 8 xx_L kc_L cu_L po_L (some .boolean) 1 0 98 16364 (some mu_L_37) 5000 true 1194 alt) = true := by decide +kernel
theorem ck_L_c_37 : ∀ i, i < 1 → (al_L_37.drop i).head?.all (fun alt => rf_run nm_cl nm_ct en_xs 8 xx_L kc_L cu_L po_L (some .boolean) 1 0 98 16364 (some mu_L_37) 5000 true 1194 alt) = true
  | 0, _ => ck_L_b_37_0
  | i + 1, h => absurd h (by omega)
theorem ck_L_n_37 : (al_L_37.drop 1).isEmpty = true := by decide +kernel
theorem ck_L_b_38_0 : (al_L_38.drop 0).head?.all (fun alt => rf_run nm_cl nm_ct en_xs 8 xx_L kc_L cu_L po_L (some .boolean) 1 0 98 16364 (some mu_L_38) 5000 true 1194 alt) = true := by decide +kernel
theorem ck_L_c_38 : ∀ i, i < 1 → (al_L_38.drop i).head?.all (fun alt => rf_run nm_cl nm_ct en_xs 8 xx_L kc_L cu_L po_L (some .boolean) 1 0 98 16364 (some mu_L_38) 5000 true 1194 alt) = true
  | 0, _ => ck_L_b_38_0
  | i + 1, h => absurd h (by omega)
theorem ck_L_n_38 : (al_L_38.drop 1).isEmpty = true := by decide +kernel
theorem ck_L_b_39_0 : (al_L_39.drop 0).head?.all (fun alt => rf_run nm_cl nm_ct en_xs 8 xx_L kc_L cu_L po_L (some .boolean) 1 0 98 16364 (some mu_L_39) 5000 true 1194 alt) = true := by decide +kernel
theorem ck_L_c_39 : ∀ i, i < 1 → (al_L_39.drop i).head?.all (fun alt => rf_run nm_cl nm_ct en_xs 8 xx_L kc_L cu_L po_L (some .boolean) 1 0 98 16364 (some mu_L_39) 5000 true 1194 alt) = true
  | 0, _ => ck_L_b_39_0
  | i + 1, h => absurd h (by omega)
theorem ck_L_n_39 : (al_L_39.drop 1).isEmpty = true := by decide +kernel
