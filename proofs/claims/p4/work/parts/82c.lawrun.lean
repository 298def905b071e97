/-! the law: its checks -/
theorem ck_L_b_13_0 : (al_L_13.drop 0).head?.all (fun alt => rf_run nm_cl nm_ct en_xs 8 xx_L kc_L cu_L po_L (some .boolean) 1 0 98 16364 (some mu_L_13) 5000 true 276 alt) = true := by decide +kernel
theorem ck_L_c_13 : ∀ i, i < 1 → (al_L_13.drop i).head?.all (fun alt => rf_run nm_cl nm_ct en_xs 8 xx_L kc_L cu_L po_L (some .boolean) 1 0 98 16364 (some mu_L_13) 5000 true 276 alt) = true
  | 0, _ => ck_L_b_13_0
  | i + 1, h => absurd h (by omega)
theorem ck_L_n_13 : (al_L_13.drop 1).isEmpty = true := by decide +kernel
theorem ck_L_b_14_0 : (al_L_14.drop 0).head?.all (fun alt => rf_run nm_cl nm_ct en_xs 8 xx_L kc_L cu_L po_L (some .boolean) 1 0 98 16364 (some mu_L_14) 5000 true 276 alt) = true := by decide +kernel
theorem ck_L_c_14 : ∀ i, i < 1 → (al_L_14.drop i).head?.all (fun alt => rf_run nm_cl nm_ct en_xs 8 xx_L kc_L cu_L po_L (some .boolean) 1 0 98 16364 (some mu_L_14) 5000 true 276 alt) = true
  | 0, _ => ck_L_b_14_0
  | i + 1, h => absurd h (by omega)
theorem ck_L_n_14 : (al_L_14.drop 1).isEmpty = true := by decide +kernel
theorem ck_L_b_15_0 : (al_L_15.drop 0).head?.all (fun alt => rf_run nm_cl nm_ct en_xs 8 xx_L kc_L cu_L po_L (some .boolean) 1 0 98 16364 (some mu_L_15) 5000 true 276 alt) = true := by decide +kernel
theorem ck_L_c_15 : ∀ i, i < 1 → (al_L_15.drop i).head?.all (fun alt => rf_run nm_cl nm_ct en_xs 8 xx_L kc_L cu_L po_L (some .boolean) 1 0 98 16364 (some mu_L_15) 5000 true 276 alt) = true
  | 0, _ => ck_L_b_15_0
  | i + 1, h => absurd h (by omega)
theorem ck_L_n_15 : (al_L_15.drop 1).isEmpty = true := by decide +kernel
theorem ck_L_b_16_0 : (al_L_16.drop 0).head?.all (fun alt => rf_run nm_cl nm_ct en_xs 8 xx_L kc_L cu_L po_L (some .boolean) 1 0 98 16364 (some mu_L_16) 5000 true 276 alt) = true := by decide +kernel
theorem ck_L_c_16 : ∀ i, i < 1 → (al_L_16.drop i).head?.all (fun alt => rf_run nm_cl nm_ct en_xs 8 xx_L kc_L cu_L po_L (some .boolean) 1 0 98 16364 (some mu_L_16) 5000 true 276 alt) = true
  | 0, _ => ck_L_b_16_0
  | i + 1, h => absurd h (by omega)
theorem ck_L_n_16 : (al_L_16.drop 1).isEmpty = true := by decide +kernel
theorem ck_L_b_17_0 : (al_L_17.drop 0).head?.all (fun alt => rf_run nm_cl nm_ct en_xs 8 xx_L kc_L cu_L po_L (some .boolean) 1 0 98 16364 (some mu_L_17) 5000 true 276 alt) = true := by decide +kernel
theorem ck_L_c_17 : ∀ i, i < 1 → (al_L_17.drop i).head?.all (fun alt => rf_run nm_cl nm_ct en_xs 8 xx_L kc_L cu_L po_L (some .boolean) 1 0 98 16364 (some mu_L_17) 5000 true 276 alt) = true
  | 0, _ => ck_L_b_17_0
  | i + 1, h => absurd h (by omega)
theorem ck_L_n_17 : (al_L_17.drop 1).isEmpty = true := by decide +kernel
theorem ck_L_b_18_0 : (al_L_18.drop 0).head?.all (fun alt => rf_run nm_cl nm_ct en_xs 8 xx_L kc_L cu_L po_L (some .boolean) 1 0 98 16364 (some mu_L_18) 5000 true 276 alt) = true := by decide +kernel
theorem ck_L_c_18 : ∀ i, i < 1 → (al_L_18.drop i).head?.all (fun alt => rf_run nm_cl nm_ct en_xs 8 xx_L kc_L cu_L po_L (some .boolean) 1 0 98 16364 (some mu_L_18) 5000 true 276 alt) = true
  | 0, _ => ck_L_b_18_0
  | i + 1, h => absurd h (by omega)
theorem ck_L_n_18 : (al_L_18.drop 1).isEmpty = true := by decide +kernel
theorem ck_L_b_19_0 : (al_L_19.drop 0).head?.all (fun alt => rf_run nm_cl nm_ct en_xs 8 xx_L kc_L cu_L po_L (some .boolean) 1 0 98 16364 (some mu_L_19) 5000 true 276 alt) = true := by decide +kernel
theorem ck_L_c_19 : ∀ i, i < 1 → (al_L_19.drop i).head?.all (fun alt => rf_run nm_cl nm_ct en_xs 8 xx_L kc_L cu_L po_L (some .boolean) 1 0 98 16364 (some mu_L_19) 5000 true 276 alt) = true
  | 0, _ => ck_L_b_19_0
  | i + 1, h => absurd h (by omega)
theorem ck_L_n_19 : (al_L_19.drop 1).isEmpty = true := by decide +kernel
theorem ck_L_b_20_0 : (al_L_20.drop 0).head?.all (fun alt => rf_run nm_cl nm_ct en_xs 8 xx_L kc_L cu_L po_L (some .boolean) 1 0 98 16364 (some mu_L_20) 5000 true 276 alt) = true := by decide +kernel
theorem ck_L_c_20 : ∀ i, i < 1 → (al_L_20.drop i).head?.all (fun alt => rf_run nm_cl nm_ct en_xs 8 xx_L kc_L cu_L po_L (some .boolean) 1 0 98 16364 (some mu_L_20) 5000 true 276 alt) = true
  | 0, _ => ck_L_b_20_0
  | i + 1, h => absurd h (by omega)
theorem ck_L_n_20 : (al_L_20.drop 1).isEmpty = true := by decide +kernel
theorem ck_L_b_21_0 : (al_L_21.drop 0).head?.all (fun alt => rf_run nm_cl nm_ct en_xs 8 xx_L kc_L cu_L po_L (some .boolean) 1 0 98 16364 (some mu_L_21) 5000 true 280 alt) = true := by decide +kernel
theorem ck_L_c_21 : ∀ i, i < 1 → (al_L_21.drop i).head?.all (fun alt => rf_run nm_cl nm_ct en_xs 8 xx_L kc_L cu_L po_L (some .boolean) 1 0 98 16364 (some mu_L_21) 5000 true 280 alt) = true
  | 0, _ => ck_L_b_21_0
  | i + 1, h => absurd h (by omega)
theorem ck_L_n_21 : (al_L_21.drop 1).isEmpty = true := by decide +kernel
theorem ck_L_b_22_0 : (al_L_22.drop 0).head?.all (fun alt => rf_run nm_cl nm_ct en_xs 8 xx_L kc_L cu_L po_L (some .boolean) 1 0 98 16364 (some mu_L_22) 5000 true 318 alt) = true := by decide +kernel
theorem ck_L_c_22 : ∀ i, i < 1 → (al_L_22.drop i).head?.all (fun alt => rf_run nm_cl nm_ct en_xs 8 xx_L kc_L cu_L po_L (some .boolean) 1 0 98 16364 (some mu_L_22) 5000 true 318 alt) = true
  | 0, _ => ck_L_b_22_0
  | i + 1, h => absurd h (by omega)
theorem ck_L_n_22 : (al_L_22.drop 1).isEmpty = true := by decide +kernel
theorem ck_L_c_23 : ∀ i, i < 0 → (al_L_23.drop i).head?.all (fun alt => rf_run nm_cl nm_ct en_xs 8 xx_L kc_L cu_L po_L (some .boolean) 1 0 98 16364 (some mu_L_23) 5000 true 318 alt) = true
  | i + 0, h => absurd h (by omega)
theorem ck_L_n_23 : (al_L_23.drop 0).isEmpty = true := by decide +kernel
theorem ck_L_c_24 : ∀ i, i < 0 → (al_L_24.drop i).head?.all (fun alt => rf_run nm_cl nm_ct en_xs 8 xx_L kc_L cu_L po_L (some .boolean) 1 0 98 16364 (some mu_L_24) 5000 true 318 alt) = true
  | i + 0, h => absurd h (by omega)
theorem ck_L_n_24 : (al_L_24.drop 0).isEmpty = true := by decide +kernel
theorem ck_L_b_25_0 : (al_L_25.drop 0).head?.all (fun alt => rf_run nm_cl nm_ct en_xs 8 xx_L kc_L cu_L po_L (some .boolean) 1 0 98 16364 (some mu_L_25) 5000 true 318 alt) = true := by decide +kernel
theorem ck_L_c_25 : ∀ i, i < 1 → (al_L_25.drop i).head?.all (fun alt => rf_run nm_cl nm_ct en_xs 8 xx_L kc_L cu_L po_L (some .boolean) 1 0 98 16364 (some mu_L_25) 5000 true 318 alt) = true
  | 0, _ => ck_L_b_25_0
  | i + 1, h => absurd h (by omega)
theorem ck_L_n_25 : (al_L_25.drop 1).isEmpty = true := by decide +kernel
theorem ck_L_c_26 : ∀ i, i < 0 → (al_L_26.drop i).head?.all (fun alt => rf_run nm_cl nm_ct en_xs 8 xx_L kc_L cu_L po_L (some .boolean) 1 0 98 16364 (some mu_L_26) 5000 true 318 alt) = true
  | i + 0, h => absurd h (by omega)
theorem ck_L_n_26 : (al_L_26.drop 0).isEmpty = true := by decide +kernel
theorem ck_L_c_27 : ∀ i, i < 0 → (al_L_27.drop i).head?.all (fun alt => rf_run nm_cl nm_ct en_xs 8 xx_L kc_L cu_L po_L (some .boolean) 1 0 98 16364 (some mu_L_27) 5000 true 318 alt) = true
  | i + 0, h => absurd h (by omega)
theorem ck_L_n_27 : (al_L_27.drop 0).isEmpty = true := by decide +kernel
theorem ck_L_c_28 : ∀ i, i < 0 → (al_L_28.drop i).head?.all (fun alt => rf_run nm_cl nm_ct en_xs 8 xx_L kc_L cu_L po_L (some .boolean) 1 0 98 16364 (some mu_L_28) 5000 true 318 alt) = true
  | i + 0, h => absurd h (by omega)
theorem ck_L_n_28 : (al_L_28.drop 0).isEmpty = true := by decide +kernel
theorem ck_L_c_29 : ∀ i, i < 0 → (al_L_29.drop i).head?.all (fun alt => rf_run nm_cl nm_ct en_xs 8 xx_L kc_L cu_L po_L (some .boolean) 1 0 98 16364 (some mu_L_29) 5000 true 318 alt) = true
  | i + 0, h => absurd h (by omega)
theorem ck_L_n_29 : (al_L_29.drop 0).isEmpty = true := by decide +kernel
theorem ck_L_c_30 : ∀ i, i < 0 → (al_L_30.drop i).head?.all (fun alt => rf_run nm_cl nm_ct en_xs 8 xx_L kc_L cu_L po_L (some .boolean) 1 0 98 16364 (some mu_L_30) 5000 true 318 alt) = true
  | i + 0, h => absurd h (by omega)
theorem ck_L_n_30 : (al_L_30.drop 0).isEmpty = true := by decide +kernel
theorem ck_L_c_31 : ∀ i, i < 0 → (al_L_31.drop i).head?.all (fun alt => rf_run nm_cl nm_ct en_xs 8 xx_L kc_L cu_L po_L (some .boolean) 1 0 98 16364 (some mu_L_31) 5000 true 318 alt) = true
  | i + 0, h => absurd h (by omega)
theorem ck_L_n_31 : (al_L_31.drop 0).isEmpty = true := by decide +kernel
theorem ck_L_c_32 : ∀ i, i < 0 → (al_L_32.drop i).head?.all (fun alt => rf_run nm_cl nm_ct en_xs 8 xx_L kc_L cu_L po_L (some .boolean) 1 0 98 16364 (some mu_L_32) 5000 true 318 alt) = true
  | i + 0, h => absurd h (by omega)
theorem ck_L_n_32 : (al_L_32.drop 0).isEmpty = true := by decide +kernel
theorem ck_L_c_33 : ∀ i, i < 0 → (al_L_33.drop i).head?.all (fun alt => rf_run nm_cl nm_ct en_xs 8 xx_L kc_L cu_L po_L (some .boolean) 1 0 98 16364 (some mu_L_33) 5000 true 318 alt) = true
  | i + 0, h => absurd h (by omega)
theorem ck_L_n_33 : (al_L_33.drop 0).isEmpty = true := by decide +kernel
theorem ck_L_c_34 : ∀ i, i < 0 → (al_L_34.drop i).head?.all (fun alt => rf_run nm_cl nm_ct en_xs 8 xx_L kc_L cu_L po_L (some .boolean) 1 0 98 16364 (some mu_L_34) 5000 true 318 alt) = true
  | i + 0, h => absurd h (by omega)
theorem ck_L_n_34 : (al_L_34.drop 0).isEmpty = true := by decide +kernel
theorem ck_L_c_35 : ∀ i, i < 0 → (al_L_35.drop i).head?.all (fun alt => rf_run nm_cl nm_ct en_xs 8 xx_L kc_L cu_L po_L (some .boolean) 1 0 98 16364 (some mu_L_35) 5000 true 318 alt) = true
  | i + 0, h => absurd h (by omega)
theorem ck_L_n_35 : (al_L_35.drop 0).isEmpty = true := by decide +kernel
theorem ck_L_c_36 : ∀ i, i < 0 → (al_L_36.drop i).head?.all (fun alt => rf_run nm_cl nm_ct en_xs 8 xx_L kc_L cu_L po_L (some .boolean) 1 0 98 16364 (some mu_L_36) 5000 true 318 alt) = true
  | i + 0, h => absurd h (by omega)
theorem ck_L_n_36 : (al_L_36.drop 0).isEmpty = true := by decide +kernel
theorem ck_L_c_37 : ∀ i, i < 0 → (al_L_37.drop i).head?.all (fun alt => rf_run nm_cl nm_ct en_xs 8 xx_L kc_L cu_L po_L (some .boolean) 1 0 98 16364 (some mu_L_37) 5000 true 318 alt) = true
  | i + 0, h => absurd h (by omega)
theorem ck_L_n_37 : (al_L_37.drop 0).isEmpty = true := by decide +kernel
theorem ck_L_c_38 : ∀ i, i < 0 → (al_L_38.drop i).head?.all (fun alt => rf_run nm_cl nm_ct en_xs 8 xx_L kc_L cu_L po_L (some .boolean) 1 0 98 16364 (some mu_L_38) 5000 true 318 alt) = true
  | i + 0, h => absurd h (by omega)
theorem ck_L_n_38 : (al_L_38.drop 0).isEmpty = true := by decide +kernel
theorem ck_L_c_39 : ∀ i, i < 0 → (al_L_39.drop i).head?.all (fun alt => rf_run nm_cl nm_ct en_xs 8 xx_L kc_L cu_L po_L (some .boolean) 1 0 98 16364 (some mu_L_39) 5000 true 318 alt) = true
  | i + 0, h => absurd h (by omega)
theorem ck_L_n_39 : (al_L_39.drop 0).isEmpty = true := by decide +kernel
theorem ck_L_b_40_0 : (al_L_40.drop 0).head?.all (fun alt => rf_run nm_cl nm_ct en_xs 8 xx_L kc_L cu_L po_L (some .boolean) 1 0 98 16364 (some mu_L_40) 5000 true 318 alt) = true := by decide +kernel
theorem ck_L_c_40 : ∀ i, i < 1 → (al_L_40.drop i).head?.all (fun alt => rf_run nm_cl nm_ct en_xs 8 xx_L kc_L cu_L po_L (some .boolean) 1 0 98 16364 (some mu_L_40) 5000 true 318 alt) = true
  | 0, _ => ck_L_b_40_0
  | i + 1, h => absurd h (by omega)
theorem ck_L_n_40 : (al_L_40.drop 1).isEmpty = true := by decide +kernel
