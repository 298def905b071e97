/-! the law: its checks -/
theorem ck_L_b_11_0 : (al_L_11.drop 0).head?.all (fun alt => rf_run nm_cl nm_ct en_xs 8 xx_L kc_L cu_L po_L (some .boolean) 1 0 98 16364 (some mu_L_11) 5000 true 511 alt) = true := by decide +kernel
theorem ck_L_c_11 : ∀ i, i < 1 → (al_L_11.drop i).head?.all (fun alt => rf_run nm_cl nm_ct en_xs 8 xx_L kc_L cu_L po_L (some .boolean) 1 0 98 16364 (some mu_L_11) 5000 true 511 alt) = true
  | 0, _ => ck_L_b_11_0
  | i + 1, h => absurd h (by omega)
theorem ck_L_n_11 : (al_L_11.drop 1).isEmpty = true := by decide +kernel
theorem ck_L_b_12_0 : (al_L_12.drop 0).head?.all (fun alt => rf_run nm_cl nm_ct en_xs 8 xx_L kc_L cu_L po_L (some .boolean) 1 0 98 16364 (some mu_L_12) 5000 true 534 alt) = true := by decide +kernel
theorem ck_L_c_12 : ∀ i, i < 1 → (al_L_12.drop i).head?.all (fun alt => rf_run nm_cl nm_ct en_xs 8 xx_L kc_L cu_L po_L (some .boolean) 1 0 98 16364 (some mu_L_12) 5000 true 534 alt) = true
  | 0, _ => ck_L_b_12_0
  | i + 1, h => absurd h (by omega)
theorem ck_L_n_12 : (al_L_12.drop 1).isEmpty = true := by decide +kernel
theorem ck_L_b_13_0 : (al_L_13.drop 0).head?.all (fun alt => rf_run nm_cl nm_ct en_xs 8 xx_L kc_L cu_L po_L (some .boolean) 1 0 98 16364 (some mu_L_13) 5000 true 567 alt) = true := by decide +kernel
theorem ck_L_c_13 : ∀ i, i < 1 → (al_L_13.drop i).head?.all (fun alt => rf_run nm_cl nm_ct en_xs 8 xx_L kc_L cu_L po_L (some .boolean) 1 0 98 16364 (some mu_L_13) 5000 true 567 alt) = true
  | 0, _ => ck_L_b_13_0
  | i + 1, h => absurd h (by omega)
theorem ck_L_n_13 : (al_L_13.drop 1).isEmpty = true := by decide +kernel
theorem ck_L_b_14_0 : (al_L_14.drop 0).head?.all (fun alt => rf_run nm_cl nm_ct en_xs 8 xx_L kc_L cu_L po_L (some .boolean) 1 0 98 16364 (some mu_L_14) 5000 true 610 alt) = true := by decide +kernel
theorem ck_L_c_14 : ∀ i, i < 1 → (al_L_14.drop i).head?.all (fun alt => rf_run nm_cl nm_ct en_xs 8 xx_L kc_L cu_L po_L (some .boolean) 1 0 98 16364 (some mu_L_14) 5000 true 610 alt) = true
  | 0, _ => ck_L_b_14_0
  | i + 1, h => absurd h (by omega)
theorem ck_L_n_14 : (al_L_14.drop 1).isEmpty = true := by decide +kernel
theorem ck_L_b_15_0 : (al_L_15.drop 0).head?.all (fun alt => rf_run nm_cl nm_ct en_xs 8 xx_L kc_L cu_L po_L (some .boolean) 1 0 98 16364 (some mu_L_15) 5000 true 643 alt) = true := by decide +kernel
theorem ck_L_c_15 : ∀ i, i < 1 → (al_L_15.drop i).head?.all (fun alt => rf_run nm_cl nm_ct en_xs 8 xx_L kc_L cu_L po_L (some .boolean) 1 0 98 16364 (some mu_L_15) 5000 true 643 alt) = true
  | 0, _ => ck_L_b_15_0
  | i + 1, h => absurd h (by omega)
theorem ck_L_n_15 : (al_L_15.drop 1).isEmpty = true := by decide +kernel
theorem ck_L_b_16_0 : (al_L_16.drop 0).head?.all (fun alt => rf_run nm_cl nm_ct en_xs 8 xx_L kc_L cu_L po_L (some .boolean) 1 0 98 16364 (some mu_L_16) 5000 true 676 alt) = true := by decide +kernel
theorem ck_L_c_16 : ∀ i, i < 1 → (al_L_16.drop i).head?.all (fun alt => rf_run nm_cl nm_ct en_xs 8 xx_L kc_L cu_L po_L (some .boolean) 1 0 98 16364 (some mu_L_16) 5000 true 676 alt) = true
  | 0, _ => ck_L_b_16_0
  | i + 1, h => absurd h (by omega)
theorem ck_L_n_16 : (al_L_16.drop 1).isEmpty = true := by decide +kernel
theorem ck_L_b_17_0 : (al_L_17.drop 0).head?.all (fun alt => rf_run nm_cl nm_ct en_xs 8 xx_L kc_L cu_L po_L (some .boolean) 1 0 98 16364 (some mu_L_17) 5000 true 709 alt) = true := by decide +kernel
theorem ck_L_c_17 : ∀ i, i < 1 → (al_L_17.drop i).head?.all (fun alt => rf_run nm_cl nm_ct en_xs 8 xx_L kc_L cu_L po_L (some .boolean) 1 0 98 16364 (some mu_L_17) 5000 true 709 alt) = true
  | 0, _ => ck_L_b_17_0
  | i + 1, h => absurd h (by omega)
theorem ck_L_n_17 : (al_L_17.drop 1).isEmpty = true := by decide +kernel
theorem ck_L_b_18_0 : (al_L_18.drop 0).head?.all (fun alt => rf_run nm_cl nm_ct en_xs 8 xx_L kc_L cu_L po_L (some .boolean) 1 0 98 16364 (some mu_L_18) 5000 true 742 alt) = true := by decide +kernel
theorem ck_L_c_18 : ∀ i, i < 1 → (al_L_18.drop i).head?.all (fun alt => rf_run nm_cl nm_ct en_xs 8 xx_L kc_L cu_L po_L (some .boolean) 1 0 98 16364 (some mu_L_18) 5000 true 742 alt) = true
  | 0, _ => ck_L_b_18_0
  | i + 1, h => absurd h (by omega)
theorem ck_L_n_18 : (al_L_18.drop 1).isEmpty = true := by decide +kernel
theorem ck_L_b_19_0 : (al_L_19.drop 0).head?.all (fun alt => rf_run nm_cl nm_ct en_xs 8 xx_L kc_L cu_L po_L (some .boolean) 1 0 98 16364 (some mu_L_19) 5000 true 785 alt) = true := by decide +kernel
theorem ck_L_c_19 : ∀ i, i < 1 → (al_L_19.drop i).head?.all (fun alt => rf_run nm_cl nm_ct en_xs 8 xx_L kc_L cu_L po_L (some .boolean) 1 0 98 16364 (some mu_L_19) 5000 true 785 alt) = true
  | 0, _ => ck_L_b_19_0
  | i + 1, h => absurd h (by omega)
theorem ck_L_n_19 : (al_L_19.drop 1).isEmpty = true := by decide +kernel
theorem ck_L_b_20_0 : (al_L_20.drop 0).head?.all (fun alt => rf_run nm_cl nm_ct en_xs 8 xx_L kc_L cu_L po_L (some .boolean) 1 0 98 16364 (some mu_L_20) 5000 true 818 alt) = true := by decide +kernel
theorem ck_L_c_20 : ∀ i, i < 1 → (al_L_20.drop i).head?.all (fun alt => rf_run nm_cl nm_ct en_xs 8 xx_L kc_L cu_L po_L (some .boolean) 1 0 98 16364 (some mu_L_20) 5000 true 818 alt) = true
  | 0, _ => ck_L_b_20_0
  | i + 1, h => absurd h (by omega)
theorem ck_L_n_20 : (al_L_20.drop 1).isEmpty = true := by decide +kernel
theorem ck_L_b_21_0 : (al_L_21.drop 0).head?.all (fun alt => rf_run nm_cl nm_ct en_xs 8 xx_L kc_L cu_L po_L (some .boolean) 1 0 98 16364 (some mu_L_21) 5000 true 851 alt) = true := by decide +kernel
theorem ck_L_c_21 : ∀ i, i < 1 → (al_L_21.drop i).head?.all (fun alt => rf_run nm_cl nm_ct en_xs 8 xx_L kc_L cu_L po_L (some .boolean) 1 0 98 16364 (some mu_L_21) 5000 true 851 alt) = true
  | 0, _ => ck_L_b_21_0
  | i + 1, h => absurd h (by omega)
theorem ck_L_n_21 : (al_L_21.drop 1).isEmpty = true := by decide +kernel
theorem ck_L_b_22_0 : (al_L_22.drop 0).head?.all (fun alt => rf_run nm_cl nm_ct en_xs 8 xx_L kc_L cu_L po_L (some .boolean) 1 0 98 16364 (some mu_L_22) 5000 true 894 alt) = true := by decide +kernel
theorem ck_L_c_22 : ∀ i, i < 1 → (al_L_22.drop i).head?.all (fun alt => rf_run nm_cl nm_ct en_xs 8 xx_L kc_L cu_L po_L (some .boolean) 1 0 98 16364 (some mu_L_22) 5000 true 894 alt) = true
  | 0, _ => ck_L_b_22_0
  | i + 1, h => absurd h (by omega)
theorem ck_L_n_22 : (al_L_22.drop 1).isEmpty = true := by decide +kernel
