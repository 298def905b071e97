/-! the law: its checks -/
theorem ck_L_b_23_0 : (al_L_23.drop 0).head?.all (fun alt => rf_run nm_cl nm_ct en_xs 8 xx_L kc_L cu_L po_L (some .boolean) 1 0 98 16364 (some mu_L_23) 5000 true 937 alt) = true := by decide +kernel
theorem ck_L_c_23 : ∀ i, i < 1 → (al_L_23.drop i).head?.all (fun alt => rf_run nm_cl nm_ct en_xs 8 xx_L kc_L cu_L po_L (some .boolean) 1 0 98 16364 (some mu_L_23) 5000 true 937 alt) = true
  | 0, _ => ck_L_b_23_0
  | i + 1, h => absurd h (by omega)
theorem ck_L_n_23 : (al_L_23.drop 1).isEmpty = true := by decide +kernel
theorem ck_L_b_24_0 : (al_L_24.drop 0).head?.all (fun alt => rf_run nm_cl nm_ct en_xs 8 xx_L kc_L cu_L po_L (some .boolean) 1 0 98 16364 (some mu_L_24) 5000 true 960 alt) = true := by decide +kernel
theorem ck_L_c_24 : ∀ i, i < 1 → (al_L_24.drop i).head?.all (fun alt => rf_run nm_cl nm_ct en_xs 8 xx_L kc_L cu_L po_L (some .boolean) 1 0 98 16364 (some mu_L_24) 5000 true 960 alt) = true
  | 0, _ => ck_L_b_24_0
  | i + 1, h => absurd h (by omega)
theorem ck_L_n_24 : (al_L_24.drop 1).isEmpty = true := by decide +kernel
theorem ck_L_b_25_0 : (al_L_25.drop 0).head?.all (fun alt => rf_run nm_cl nm_ct en_xs 8 xx_L kc_L cu_L po_L (some .boolean) 1 0 98 16364 (some mu_L_25) 5000 true 993 alt) = true := by decide +kernel
theorem ck_L_c_25 : ∀ i, i < 1 → (al_L_25.drop i).head?.all (fun alt => rf_run nm_cl nm_ct en_xs 8 xx_L kc_L cu_L po_L (some .boolean) 1 0 98 16364 (some mu_L_25) 5000 true 993 alt) = true
  | 0, _ => ck_L_b_25_0
  | i + 1, h => absurd h (by omega)
theorem ck_L_n_25 : (al_L_25.drop 1).isEmpty = true := by decide +kernel
theorem ck_L_b_26_0 : (al_L_26.drop 0).head?.all (fun alt => rf_run nm_cl nm_ct en_xs 8 xx_L kc_L cu_L po_L (some .boolean) 1 0 98 16364 (some mu_L_26) 5000 true 1016 alt) = true := by decide +kernel
theorem ck_L_c_26 : ∀ i, i < 1 → (al_L_26.drop i).head?.all (fun alt => rf_run nm_cl nm_ct en_xs 8 xx_L kc_L cu_L po_L (some .boolean) 1 0 98 16364 (some mu_L_26) 5000 true 1016 alt) = true
  | 0, _ => ck_L_b_26_0
  | i + 1, h => absurd h (by omega)
theorem ck_L_n_26 : (al_L_26.drop 1).isEmpty = true := by decide +kernel
theorem ck_L_b_27_0 : (al_L_27.drop 0).head?.all (fun alt => rf_run nm_cl nm_ct en_xs 8 xx_L kc_L cu_L po_L (some .boolean) 1 0 98 16364 (some mu_L_27) 5000 true 1039 alt) = true := by decide +kernel
theorem ck_L_c_27 : ∀ i, i < 1 → (al_L_27.drop i).head?.all (fun alt => rf_run nm_cl nm_ct en_xs 8 xx_L kc_L cu_L po_L (some .boolean) 1 0 98 16364 (some mu_L_27) 5000 true 1039 alt) = true
  | 0, _ => ck_L_b_27_0
  | i + 1, h => absurd h (by omega)
theorem ck_L_n_27 : (al_L_27.drop 1).isEmpty = true := by decide +kernel
theorem ck_L_b_28_0 : (al_L_28.drop 0).head?.all (fun alt => rf_run nm_cl nm_ct en_xs 8 xx_L kc_L cu_L po_L (some .boolean) 1 0 98 16364 (some mu_L_28) 5000 true 1052 alt) = true := by decide +kernel
theorem ck_L_c_28 : ∀ i, i < 1 → (al_L_28.drop i).head?.all (fun alt => rf_run nm_cl nm_ct en_xs 8 xx_L kc_L cu_L po_L (some .boolean) 1 0 98 16364 (some mu_L_28) 5000 true 1052 alt) = true
  | 0, _ => ck_L_b_28_0
  | i + 1, h => absurd h (by omega)
theorem ck_L_n_28 : (al_L_28.drop 1).isEmpty = true := by decide +kernel
theorem ck_L_b_29_0 : (al_L_29.drop 0).head?.all (fun alt => rf_run nm_cl nm_ct en_xs 8 xx_L kc_L cu_L po_L (some .boolean) 1 0 98 16364 (some mu_L_29) 5000 true 1065 alt) = true := by decide +kernel
theorem ck_L_c_29 : ∀ i, i < 1 → (al_L_29.drop i).head?.all (fun alt => rf_run nm_cl nm_ct en_xs 8 xx_L kc_L cu_L po_L (some .boolean) 1 0 98 16364 (some mu_L_29) 5000 true 1065 alt) = true
  | 0, _ => ck_L_b_29_0
  | i + 1, h => absurd h (by omega)
theorem ck_L_n_29 : (al_L_29.drop 1).isEmpty = true := by decide +kernel
theorem ck_L_b_30_0 : (al_L_30.drop 0).head?.all (fun alt => rf_run nm_cl nm_ct en_xs 8 xx_L kc_L cu_L po_L (some .boolean) 1 0 98 16364 (some mu_L_30) 5000 true 1078 alt) = true := by decide +kernel
theorem ck_L_c_30 : ∀ i, i < 1 → (al_L_30.drop i).head?.all (fun alt => rf_run nm_cl nm_ct en_xs 8 xx_L kc_L cu_L po_L (some .boolean) 1 0 98 16364 (some mu_L_30) 5000 true 1078 alt) = true
  | 0, _ => ck_L_b_30_0
  | i + 1, h => absurd h (by omega)
theorem ck_L_n_30 : (al_L_30.drop 1).isEmpty = true := by decide +kernel
theorem ck_L_b_31_0 : (al_L_31.drop 0).head?.all (fun alt => rf_run nm_cl nm_ct en_xs 8 xx_L kc_L cu_L po_L (some .boolean) 1 0 98 16364 (some mu_L_31) 5000 true 1091 alt) = true := by decide +kernel
theorem ck_L_c_31 : ∀ i, i < 1 → (al_L_31.drop i).head?.all (fun alt => rf_run nm_cl nm_ct en_xs 8 xx_L kc_L cu_L po_L (some .boolean) 1 0 98 16364 (some mu_L_31) 5000 true 1091 alt) = true
  | 0, _ => ck_L_b_31_0
  | i + 1, h => absurd h (by omega)
theorem ck_L_n_31 : (al_L_31.drop 1).isEmpty = true := by decide +kernel
theorem ck_L_b_32_0 : (al_L_32.drop 0).head?.all (fun alt => rf_run nm_cl nm_ct en_xs 8 xx_L kc_L cu_L po_L (some .boolean) 1 0 98 16364 (some mu_L_32) 5000 true 1114 alt) = true := by decide +kernel
theorem ck_L_c_32 : ∀ i, i < 1 → (al_L_32.drop i).head?.all (fun alt => rf_run nm_cl nm_ct en_xs 8 xx_L kc_L cu_L po_L (some .boolean) 1 0 98 16364 (some mu_L_32) 5000 true 1114 alt) = true
  | 0, _ => ck_L_b_32_0
  | i + 1, h => absurd h (by omega)
theorem ck_L_n_32 : (al_L_32.drop 1).isEmpty = true := by decide +kernel
theorem ck_L_b_33_0 : (al_L_33.drop 0).head?.all (fun alt => rf_run nm_cl nm_ct en_xs 8 xx_L kc_L cu_L po_L (some .boolean) 1 0 98 16364 (some mu_L_33) 5000 true 1157 alt) = true := by decide +kernel
theorem ck_L_c_33 : ∀ i, i < 1 → (al_L_33.drop i).head?.all (fun alt => rf_run nm_cl nm_ct en_xs 8 xx_L kc_L cu_L po_L (some .boolean) 1 0 98 16364 (some mu_L_33) 5000 true 1157 alt) = true
  | 0, _ => ck_L_b_33_0
  | i + 1, h => absurd h (by omega)
theorem ck_L_n_33 : (al_L_33.drop 1).isEmpty = true := by decide +kernel
theorem ck_L_b_34_0 : (al_L_34.drop 0).head?.all (fun alt => rf_run nm_cl nm_ct en_xs 8 xx_L kc_L cu_L po_L (some .boolean) 1 0 98 16364 (some mu_L_34) 5000 true 1180 alt) = true := by decide +kernel
theorem ck_L_c_34 : ∀ i, i < 1 → (al_L_34.drop i).head?.all (fun alt => rf_run nm_cl nm_ct en_xs 8 xx_L kc_L cu_L po_L (some .boolean) 1 0 98 16364 (some mu_L_34) 5000 true 1180 alt) = true
  | 0, _ => ck_L_b_34_0
  | i + 1, h => absurd h (by omega)
theorem ck_L_n_34 : (al_L_34.drop 1).isEmpty = true := by decide +kernel
