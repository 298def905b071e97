/-! the law: its checks -/
theorem ck_L_a : rf_run nm_cl nm_ct en_xs 8 xx_L kc_L cu_L po_L (some .boolean) 1 0 98 16364 none 5000 false 0 es_L = true := by decide +kernel
theorem ck_L_b_0_0 : (al_L_0.drop 0).head?.all (fun alt => rf_run nm_cl nm_ct en_xs 8 xx_L kc_L cu_L po_L (some .boolean) 1 0 98 16364 (some mu_L_0) 5000 true 16 alt) = true := by decide +kernel
theorem ck_L_c_0 : ∀ i, i < 1 → (al_L_0.drop i).head?.all (fun alt => rf_run nm_cl nm_ct en_xs 8 xx_L kc_L cu_L po_L (some .boolean) 1 0 98 16364 (some mu_L_0) 5000 true 16 alt) = true
  | 0, _ => ck_L_b_0_0
  | i + 1, h => absurd h (by omega)
theorem ck_L_n_0 : (al_L_0.drop 1).isEmpty = true := by decide +kernel
theorem ck_L_b_1_0 : (al_L_1.drop 0).head?.all (fun alt => rf_run nm_cl nm_ct en_xs 8 xx_L kc_L cu_L po_L (some .boolean) 1 0 98 16364 (some mu_L_1) 5000 true 18 alt) = true := by decide +kernel
theorem ck_L_c_1 : ∀ i, i < 1 → (al_L_1.drop i).head?.all (fun alt => rf_run nm_cl nm_ct en_xs 8 xx_L kc_L cu_L po_L (some .boolean) 1 0 98 16364 (some mu_L_1) 5000 true 18 alt) = true
  | 0, _ => ck_L_b_1_0
  | i + 1, h => absurd h (by omega)
theorem ck_L_n_1 : (al_L_1.drop 1).isEmpty = true := by decide +kernel
theorem ck_L_b_2_0 : (al_L_2.drop 0).head?.all (fun alt => rf_run nm_cl nm_ct en_xs 8 xx_L kc_L cu_L po_L (some .boolean) 1 0 98 16364 (some mu_L_2) 5000 true 204 alt) = true := by decide +kernel
theorem ck_L_c_2 : ∀ i, i < 1 → (al_L_2.drop i).head?.all (fun alt => rf_run nm_cl nm_ct en_xs 8 xx_L kc_L cu_L po_L (some .boolean) 1 0 98 16364 (some mu_L_2) 5000 true 204 alt) = true
  | 0, _ => ck_L_b_2_0
  | i + 1, h => absurd h (by omega)
theorem ck_L_n_2 : (al_L_2.drop 1).isEmpty = true := by decide +kernel
theorem ck_L_b_3_0 : (al_L_3.drop 0).head?.all (fun alt => rf_run nm_cl nm_ct en_xs 8 xx_L kc_L cu_L po_L (some .boolean) 1 0 98 16364 (some mu_L_3) 5000 true 233 alt) = true := by decide +kernel
theorem ck_L_c_3 : ∀ i, i < 1 → (al_L_3.drop i).head?.all (fun alt => rf_run nm_cl nm_ct en_xs 8 xx_L kc_L cu_L po_L (some .boolean) 1 0 98 16364 (some mu_L_3) 5000 true 233 alt) = true
  | 0, _ => ck_L_b_3_0
  | i + 1, h => absurd h (by omega)
theorem ck_L_n_3 : (al_L_3.drop 1).isEmpty = true := by decide +kernel
theorem ck_L_b_4_0 : (al_L_4.drop 0).head?.all (fun alt => rf_run nm_cl nm_ct en_xs 8 xx_L kc_L cu_L po_L (some .boolean) 1 0 98 16364 (some mu_L_4) 5000 true 233 alt) = true := by decide +kernel
theorem ck_L_c_4 : ∀ i, i < 1 → (al_L_4.drop i).head?.all (fun alt => rf_run nm_cl nm_ct en_xs 8 xx_L kc_L cu_L po_L (some .boolean) 1 0 98 16364 (some mu_L_4) 5000 true 233 alt) = true
  | 0, _ => ck_L_b_4_0
  | i + 1, h => absurd h (by omega)
theorem ck_L_n_4 : (al_L_4.drop 1).isEmpty = true := by decide +kernel
theorem ck_L_b_5_0 : (al_L_5.drop 0).head?.all (fun alt => rf_run nm_cl nm_ct en_xs 8 xx_L kc_L cu_L po_L (some .boolean) 1 0 98 16364 (some mu_L_5) 5000 true 233 alt) = true := by decide +kernel
theorem ck_L_c_5 : ∀ i, i < 1 → (al_L_5.drop i).head?.all (fun alt => rf_run nm_cl nm_ct en_xs 8 xx_L kc_L cu_L po_L (some .boolean) 1 0 98 16364 (some mu_L_5) 5000 true 233 alt) = true
  | 0, _ => ck_L_b_5_0
  | i + 1, h => absurd h (by omega)
theorem ck_L_n_5 : (al_L_5.drop 1).isEmpty = true := by decide +kernel
theorem ck_L_b_6_0 : (al_L_6.drop 0).head?.all (fun alt => rf_run nm_cl nm_ct en_xs 8 xx_L kc_L cu_L po_L (some .boolean) 1 0 98 16364 (some mu_L_6) 5000 true 233 alt) = true := by decide +kernel
theorem ck_L_c_6 : ∀ i, i < 1 → (al_L_6.drop i).head?.all (fun alt => rf_run nm_cl nm_ct en_xs 8 xx_L kc_L cu_L po_L (some .boolean) 1 0 98 16364 (some mu_L_6) 5000 true 233 alt) = true
  | 0, _ => ck_L_b_6_0
  | i + 1, h => absurd h (by omega)
theorem ck_L_n_6 : (al_L_6.drop 1).isEmpty = true := by decide +kernel
theorem ck_L_c_7 : ∀ i, i < 0 → (al_L_7.drop i).head?.all (fun alt => rf_run nm_cl nm_ct en_xs 8 xx_L kc_L cu_L po_L (some .boolean) 1 0 98 16364 (some mu_L_7) 5000 true 233 alt) = true
  | i + 0, h => absurd h (by omega)
theorem ck_L_n_7 : (al_L_7.drop 0).isEmpty = true := by decide +kernel
theorem ck_L_c_8 : ∀ i, i < 0 → (al_L_8.drop i).head?.all (fun alt => rf_run nm_cl nm_ct en_xs 8 xx_L kc_L cu_L po_L (some .boolean) 1 0 98 16364 (some mu_L_8) 5000 true 233 alt) = true
  | i + 0, h => absurd h (by omega)
theorem ck_L_n_8 : (al_L_8.drop 0).isEmpty = true := by decide +kernel
theorem ck_L_b_9_0 : (al_L_9.drop 0).head?.all (fun alt => rf_run nm_cl nm_ct en_xs 8 xx_L kc_L cu_L po_L (some .boolean) 1 0 98 16364 (some mu_L_9) 5000 true 233 alt) = true := by decide +kernel
theorem ck_L_c_9 : ∀ i, i < 1 → (al_L_9.drop i).head?.all (fun alt => rf_run nm_cl nm_ct en_xs 8 xx_L kc_L cu_L po_L (some .boolean) 1 0 98 16364 (some mu_L_9) 5000 true 233 alt) = true
  | 0, _ => ck_L_b_9_0
  | i + 1, h => absurd h (by omega)
theorem ck_L_n_9 : (al_L_9.drop 1).isEmpty = true := by decide +kernel
theorem ck_L_b_10_0 : (al_L_10.drop 0).head?.all (fun alt => rf_run nm_cl nm_ct en_xs 8 xx_L kc_L cu_L po_L (some .boolean) 1 0 98 16364 (some mu_L_10) 5000 true 233 alt) = true := by decide +kernel
theorem ck_L_c_10 : ∀ i, i < 1 → (al_L_10.drop i).head?.all (fun alt => rf_run nm_cl nm_ct en_xs 8 xx_L kc_L cu_L po_L (some .boolean) 1 0 98 16364 (some mu_L_10) 5000 true 233 alt) = true
  | 0, _ => ck_L_b_10_0
  | i + 1, h => absurd h (by omega)
theorem ck_L_n_10 : (al_L_10.drop 1).isEmpty = true := by decide +kernel
theorem ck_L_b_11_0 : (al_L_11.drop 0).head?.all (fun alt => rf_run nm_cl nm_ct en_xs 8 xx_L kc_L cu_L po_L (some .boolean) 1 0 98 16364 (some mu_L_11) 5000 true 237 alt) = true := by decide +kernel
theorem ck_L_c_11 : ∀ i, i < 1 → (al_L_11.drop i).head?.all (fun alt => rf_run nm_cl nm_ct en_xs 8 xx_L kc_L cu_L po_L (some .boolean) 1 0 98 16364 (some mu_L_11) 5000 true 237 alt) = true
  | 0, _ => ck_L_b_11_0
  | i + 1, h => absurd h (by omega)
theorem ck_L_n_11 : (al_L_11.drop 1).isEmpty = true := by decide +kernel
theorem ck_L_b_12_0 : (al_L_12.drop 0).head?.all (fun alt => rf_run nm_cl nm_ct en_xs 8 xx_L kc_L cu_L po_L (some .boolean) 1 0 98 16364 (some mu_L_12) 5000 true 276 alt) = true := by decide +kernel
theorem ck_L_c_12 : ∀ i, i < 1 → (al_L_12.drop i).head?.all (fun alt => rf_run nm_cl nm_ct en_xs 8 xx_L kc_L cu_L po_L (some .boolean) 1 0 98 16364 (some mu_L_12) 5000 true 276 alt) = true
  | 0, _ => ck_L_b_12_0
  | i + 1, h => absurd h (by omega)
theorem ck_L_n_12 : (al_L_12.drop 1).isEmpty = true := by decide +kernel
theorem ck_L_b_13_0 : (al_L_13.drop 0).head?.all (fun alt => rf_run nm_cl nm_ct en_xs 8 xx_L kc_L cu_L po_L (some .boolean) 1 0 98 16364 (some mu_L_13) 5000 true 276 alt) = true := by decide +kernel
theorem ck_L_c_13 : ∀ i, i < 1 → (al_L_13.drop i).head?.all (fun alt => rf_run nm_cl nm_ct en_xs 8 xx_L kc_L cu_L po_L (some .boolean) 1 0 98 16364 (some mu_L_13) 5000 true 276 alt) = true
  | 0, _ => ck_L_b_13_0
  | i + 1, h => absurd h (by omega)
theorem ck_L_n_13 : (al_L_13.drop 1).isEmpty = true := by decide +kernel
theorem ck_L_b_14_0 : (al_L_14.drop 0).head?.all (fun alt => rf_run nm_cl nm_ct en_xs 8 xx_L kc_L cu_L po_L (some .boolean) 1 0 98 16364 (some mu_L_14) 5000 true 276 alt) = true := by decide +kernel
theorem ck_L_c_14 : ∀ i, i < 1 → (al_L_14.drop i).head?.all (fun alt => rf_run nm_cl nm_ct en_xs 8 xx_L kc_L cu_L po_L (some .boolean) 1 0 98 16364 (some mu_L_14) 5000 true 276 alt) = true
  | 0, _ => ck_L_b_14_0
  | i + 1, h => absurd h (by omega)
theorem ck_L_n_14 : (al_L_14.drop 1).isEmpty = true := by decide +kernel
theorem ck_L_b_15_0 : (al_L_15.drop 0).head?.all (fun alt => rf_run nm_cl nm_ct en_xs 8 xx_L kc_L cu_L po_L (some .boolean) 1 0 98 16364 (some mu_L_15) 5000 true 276 alt) = true := by decide +kernel
theorem ck_L_c_15 : ∀ i, i < 1 → (al_L_15.drop i).head?.all (fun alt => rf_run nm_cl nm_ct en_xs 8 xx_L kc_L cu_L po_L (some .boolean) 1 0 98 16364 (some mu_L_15) 5000 true 276 alt) = true
  | 0, _ => ck_L_b_15_0
  | i + 1, h => absurd h (by omega)
theorem ck_L_n_15 : (al_L_15.drop 1).isEmpty = true := by decide +kernel
theorem ck_L_b_16_0 : (al_L_16.drop 0).head?.all (fun alt => rf_run nm_cl nm_ct en_xs 8 xx_L kc_L cu_L po_L (some .boolean) 1 0 98 16364 (some mu_L_16) 5000 true 276 alt) = true := by decide +kernel
theorem ck_L_c_16 : ∀ i, i < 1 → (al_L_16.drop i).head?.all (fun alt => rf_run nm_cl nm_ct en_xs 8 xx_L kc_L cu_L po_L (some .boolean) 1 0 98 16364 (some mu_L_16) 5000 true 276 alt) = true
  | 0, _ => ck_L_b_16_0
  | i + 1, h => absurd h (by omega)
theorem ck_L_n_16 : (al_L_16.drop 1).isEmpty = true := by decide +kernel
theorem ck_L_b_17_0 : (al_L_17.drop 0).head?.all (fun alt => rf_run nm_cl nm_ct en_xs 8 xx_L kc_L cu_L po_L (some .boolean) 1 0 98 16364 (some mu_L_17) 5000 true 276 alt) = true := by decide +kernel
theorem ck_L_c_17 : ∀ i, i < 1 → (al_L_17.drop i).head?.all (fun alt => rf_run nm_cl nm_ct en_xs 8 xx_L kc_L cu_L po_L (some .boolean) 1 0 98 16364 (some mu_L_17) 5000 true 276 alt) = true
  | 0, _ => ck_L_b_17_0
  | i + 1, h => absurd h (by omega)
theorem ck_L_n_17 : (al_L_17.drop 1).isEmpty = true := by decide +kernel
theorem ck_L_b_18_0 : (al_L_18.drop 0).head?.all (fun alt => rf_run nm_cl nm_ct en_xs 8 xx_L kc_L cu_L po_L (some .boolean) 1 0 98 16364 (some mu_L_18) 5000 true 276 alt) = true := by decide +kernel
theorem ck_L_c_18 : ∀ i, i < 1 → (al_L_18.drop i).head?.all (fun alt => rf_run nm_cl nm_ct en_xs 8 xx_L kc_L cu_L po_L (some .boolean) 1 0 98 16364 (some mu_L_18) 5000 true 276 alt) = true
  | 0, _ => ck_L_b_18_0
  | i + 1, h => absurd h (by omega)
theorem ck_L_n_18 : (al_L_18.drop 1).isEmpty = true := by decide +kernel
theorem ck_L_b_19_0 : (al_L_19.drop 0).head?.all (fun alt => rf_run nm_cl nm_ct en_xs 8 xx_L kc_L cu_L po_L (some .boolean) 1 0 98 16364 (some mu_L_19) 5000 true 276 alt) = true := by decide +kernel
theorem ck_L_c_19 : ∀ i, i < 1 → (al_L_19.drop i).head?.all (fun alt => rf_run nm_cl nm_ct en_xs 8 xx_L kc_L cu_L po_L (some .boolean) 1 0 98 16364 (some mu_L_19) 5000 true 276 alt) = true
  | 0, _ => ck_L_b_19_0
  | i + 1, h => absurd h (by omega)
theorem ck_L_n_19 : (al_L_19.drop 1).isEmpty = true := by decide +kernel
theorem ck_L_b_20_0 : (al_L_20.drop 0).head?.all (fun alt => rf_run nm_cl nm_ct en_xs 8 xx_L kc_L cu_L po_L (some .boolean) 1 0 98 16364 (some mu_L_20) 5000 true 276 alt) = true := by decide +kernel
theorem ck_L_c_20 : ∀ i, i < 1 → (al_L_20.drop i).head?.all (fun alt => rf_run nm_cl nm_ct en_xs 8 xx_L kc_L cu_L po_L (some .boolean) 1 0 98 16364 (some mu_L_20) 5000 true 276 alt) = true
  | 0, _ => ck_L_b_20_0
  | i + 1, h => absurd h (by omega)
theorem ck_L_n_20 : (al_L_20.drop 1).isEmpty = true := by decide +kernel
theorem ck_L_b_21_0 : (al_L_21.drop 0).head?.all (fun alt => rf_run nm_cl nm_ct en_xs 8 xx_L kc_L cu_L po_L (some .boolean) 1 0 98 16364 (some mu_L_21) 5000 true 280 alt) = true := by decide +kernel
theorem ck_L_c_21 : ∀ i, i < 1 → (al_L_21.drop i).head?.all (fun alt => rf_run nm_cl nm_ct en_xs 8 xx_L kc_L cu_L po_L (some .boolean) 1 0 98 16364 (some mu_L_21) 5000 true 280 alt) = true
  | 0, _ => ck_L_b_21_0
  | i + 1, h => absurd h (by omega)
theorem ck_L_n_21 : (al_L_21.drop 1).isEmpty = true := by decide +kernel
theorem ck_L_b_22_0 : (al_L_22.drop 0).head?.all (fun alt => rf_run nm_cl nm_ct en_xs 8 xx_L kc_L cu_L po_L (some .boolean) 1 0 98 16364 (some mu_L_22) 5000 true 318 alt) = true := by decide +kernel
theorem ck_L_c_22 : ∀ i, i < 1 → (al_L_22.drop i).head?.all (fun alt => rf_run nm_cl nm_ct en_xs 8 xx_L kc_L cu_L po_L (some .boolean) 1 0 98 16364 (some mu_L_22) 5000 true 318 alt) = true
  | 0, _ => ck_L_b_22_0
  | i + 1, h => absurd h (by omega)
theorem ck_L_n_22 : (al_L_22.drop 1).isEmpty = true := by decide +kernel
theorem ck_L_c_23 : ∀ i, i < 0 → (al_L_23.drop i).head?.all (fun alt => rf_run nm_cl nm_ct en_xs 8 xx_L kc_L cu_L po_L (some .boolean) 1 0 98 16364 (some mu_L_23) 5000 true 318 alt) = true
  | i + 0, h => absurd h (by omega)
theorem ck_L_n_23 : (al_L_23.drop 0).isEmpty = true := by decide +kernel
theorem ck_L_c_24 : ∀ i, i < 0 → (al_L_24.drop i).head?.all (fun alt => rf_run nm_cl nm_ct en_xs 8 xx_L kc_L cu_L po_L (some .boolean) 1 0 98 16364 (some mu_L_24) 5000 true 318 alt) = true
  | i + 0, h => absurd h (by omega)
theorem ck_L_n_24 : (al_L_24.drop 0).isEmpty = true := by decide +kernel
theorem ck_L_b_25_0 : (al_L_25.drop 0).head?.all (fun alt => rf_run nm_cl nm_ct en_xs 8 xx_L kc_L cu_L po_L (some .boolean) 1 0 98 16364 (some mu_L_25) 5000 true 318 alt) = true := by decide +kernel
theorem ck_L_c_25 : ∀ i, i < 1 → (al_L_25.drop i).head?.all (fun alt => rf_run nm_cl nm_ct en_xs 8 xx_L kc_L cu_L po_L (some .boolean) 1 0 98 16364 (some mu_L_25) 5000 true 318 alt) = true
  | 0, _ => ck_L_b_25_0
  | i + 1, h => absurd h (by omega)
theorem ck_L_n_25 : (al_L_25.drop 1).isEmpty = true := by decide +kernel
theorem ck_L_c_26 : ∀ i, i < 0 → (al_L_26.drop i).head?.all (fun alt => rf_run nm_cl nm_ct en_xs 8 xx_L kc_L cu_L po_L (some .boolean) 1 0 98 16364 (some mu_L_26) 5000 true 318 alt) = true
  | i + 0, h => absurd h (by omega)
theorem ck_L_n_26 : (al_L_26.drop 0).isEmpty = true := by decide +kernel
theorem ck_L_c_27 : ∀ i, i < 0 → (al_L_27.drop i).head?.all (fun alt => rf_run nm_cl nm_ct en_xs 8 xx_L kc_L cu_L po_L (some .boolean) 1 0 98 16364 (some mu_L_27) 5000 true 318 alt) = true
  | i + 0, h => absurd h (by omega)
theorem ck_L_n_27 : (al_L_27.drop 0).isEmpty = true := by decide +kernel
theorem ck_L_c_28 : ∀ i, i < 0 → (al_L_28.drop i).head?.all (fun alt => rf_run nm_cl nm_ct en_xs 8 xx_L kc_L cu_L po_L (some .boolean) 1 0 98 16364 (some mu_L_28) 5000 true 318 alt) = true
  | i + 0, h => absurd h (by omega)
theorem ck_L_n_28 : (al_L_28.drop 0).isEmpty = true := by decide +kernel
theorem ck_L_c_29 : ∀ i, i < 0 → (al_L_29.drop i).head?.all (fun alt => rf_run nm_cl nm_ct en_xs 8 xx_L kc_L cu_L po_L (some .boolean) 1 0 98 16364 (some mu_L_29) 5000 true 318 alt) = true
  | i + 0, h => absurd h (by omega)
theorem ck_L_n_29 : (al_L_29.drop 0).isEmpty = true := by decide +kernel
theorem ck_L_c_30 : ∀ i, i < 0 → (al_L_30.drop i).head?.all (fun alt => rf_run nm_cl nm_ct en_xs 8 xx_L kc_L cu_L po_L (some .boolean) 1 0 98 16364 (some mu_L_30) 5000 true 318 alt) = true
  | i + 0, h => absurd h (by omega)
theorem ck_L_n_30 : (al_L_30.drop 0).isEmpty = true := by decide +kernel
theorem ck_L_c_31 : ∀ i, i < 0 → (al_L_31.drop i).head?.all (fun alt => rf_run nm_cl nm_ct en_xs 8 xx_L kc_L cu_L po_L (some .boolean) 1 0 98 16364 (some mu_L_31) 5000 true 318 alt) = true
  | i + 0, h => absurd h (by omega)
theorem ck_L_n_31 : (al_L_31.drop 0).isEmpty = true := by decide +kernel
theorem ck_L_c_32 : ∀ i, i < 0 → (al_L_32.drop i).head?.all (fun alt => rf_run nm_cl nm_ct en_xs 8 xx_L kc_L cu_L po_L (some .boolean) 1 0 98 16364 (some mu_L_32) 5000 true 318 alt) = true
  | i + 0, h => absurd h (by omega)
theorem ck_L_n_32 : (al_L_32.drop 0).isEmpty = true := by decide +kernel
theorem ck_L_c_33 : ∀ i, i < 0 → (al_L_33.drop i).head?.all (fun alt => rf_run nm_cl nm_ct en_xs 8 xx_L kc_L cu_L po_L (some .boolean) 1 0 98 16364 (some mu_L_33) 5000 true 318 alt) = true
  | i + 0, h => absurd h (by omega)
theorem ck_L_n_33 : (al_L_33.drop 0).isEmpty = true := by decide +kernel
theorem ck_L_c_34 : ∀ i, i < 0 → (al_L_34.drop i).head?.all (fun alt => rf_run nm_cl nm_ct en_xs 8 xx_L kc_L cu_L po_L (some .boolean) 1 0 98 16364 (some mu_L_34) 5000 true 318 alt) = true
  | i + 0, h => absurd h (by omega)
theorem ck_L_n_34 : (al_L_34.drop 0).isEmpty = true := by decide +kernel
theorem ck_L_c_35 : ∀ i, i < 0 → (al_L_35.drop i).head?.all (fun alt => rf_run nm_cl nm_ct en_xs 8 xx_L kc_L cu_L po_L (some .boolean) 1 0 98 16364 (some mu_L_35) 5000 true 318 alt) = true
  | i + 0, h => absurd h (by omega)
theorem ck_L_n_35 : (al_L_35.drop 0).isEmpty = true := by decide +kernel
theorem ck_L_c_36 : ∀ i, i < 0 → (al_L_36.drop i).head?.all (fun alt => rf_run nm_cl nm_ct en_xs 8 xx_L kc_L cu_L po_L (some .boolean) 1 0 98 16364 (some mu_L_36) 5000 true 318 alt) = true
  | i + 0, h => absurd h (by omega)
theorem ck_L_n_36 : (al_L_36.drop 0).isEmpty = true := by decide +kernel
theorem ck_L_c_37 : ∀ i, i < 0 → (al_L_37.drop i).head?.all (fun alt => rf_run nm_cl nm_ct en_xs 8 xx_L kc_L cu_L po_L (some .boolean) 1 0 98 16364 (some mu_L_37) 5000 true 318 alt) = true
  | i + 0, h => absurd h (by omega)
theorem ck_L_n_37 : (al_L_37.drop 0).isEmpty = true := by decide +kernel
theorem ck_L_c_38 : ∀ i, i < 0 → (al_L_38.drop i).head?.all (fun alt => rf_run nm_cl nm_ct en_xs 8 xx_L kc_L cu_L po_L (some .boolean) 1 0 98 16364 (some mu_L_38) 5000 true 318 alt) = true
  | i + 0, h => absurd h (by omega)
theorem ck_L_n_38 : (al_L_38.drop 0).isEmpty = true := by decide +kernel
theorem ck_L_c_39 : ∀ i, i < 0 → (al_L_39.drop i).head?.all (fun alt => rf_run nm_cl nm_ct en_xs 8 xx_L kc_L cu_L po_L (some .boolean) 1 0 98 16364 (some mu_L_39) 5000 true 318 alt) = true
  | i + 0, h => absurd h (by omega)
theorem ck_L_n_39 : (al_L_39.drop 0).isEmpty = true := by decide +kernel
theorem ck_L_b_40_0 : (al_L_40.drop 0).head?.all (fun alt => rf_run nm_cl nm_ct en_xs 8 xx_L kc_L cu_L po_L (some .boolean) 1 0 98 16364 (some mu_L_40) 5000 true 318 alt) = true := by decide +kernel
theorem ck_L_c_40 : ∀ i, i < 1 → (al_L_40.drop i).head?.all (fun alt => rf_run nm_cl nm_ct en_xs 8 xx_L kc_L cu_L po_L (some .boolean) 1 0 98 16364 (some mu_L_40) 5000 true 318 alt) = true
  | 0, _ => ck_L_b_40_0
  | i + 1, h => absurd h (by omega)
theorem ck_L_n_40 : (al_L_40.drop 1).isEmpty = true := by decide +kernel
theorem ck_L_b_41_0 : (al_L_41.drop 0).head?.all (fun alt => rf_run nm_cl nm_ct en_xs 8 xx_L kc_L cu_L po_L (some .boolean) 1 0 98 16364 (some mu_L_41) 5000 true 318 alt) = true := by decide +kernel
theorem ck_L_c_41 : ∀ i, i < 1 → (al_L_41.drop i).head?.all (fun alt => rf_run nm_cl nm_ct en_xs 8 xx_L kc_L cu_L po_L (some .boolean) 1 0 98 16364 (some mu_L_41) 5000 true 318 alt) = true
  | 0, _ => ck_L_b_41_0
  | i + 1, h => absurd h (by omega)
theorem ck_L_n_41 : (al_L_41.drop 1).isEmpty = true := by decide +kernel
theorem ck_L_c_42 : ∀ i, i < 0 → (al_L_42.drop i).head?.all (fun alt => rf_run nm_cl nm_ct en_xs 8 xx_L kc_L cu_L po_L (some .boolean) 1 0 98 16364 (some mu_L_42) 5000 true 318 alt) = true
  | i + 0, h => absurd h (by omega)
theorem ck_L_n_42 : (al_L_42.drop 0).isEmpty = true := by decide +kernel
theorem ck_L_c_43 : ∀ i, i < 0 → (al_L_43.drop i).head?.all (fun alt => rf_run nm_cl nm_ct en_xs 8 xx_L kc_L cu_L po_L (some .boolean) 1 0 98 16364 (some mu_L_43) 5000 true 318 alt) = true
  | i + 0, h => absurd h (by omega)
theorem ck_L_n_43 : (al_L_43.drop 0).isEmpty = true := by decide +kernel
theorem ck_L_c_44 : ∀ i, i < 0 → (al_L_44.drop i).head?.all (fun alt => rf_run nm_cl nm_ct en_xs 8 xx_L kc_L cu_L po_L (some .boolean) 1 0 98 16364 (some mu_L_44) 5000 true 318 alt) = true
  | i + 0, h => absurd h (by omega)
theorem ck_L_n_44 : (al_L_44.drop 0).isEmpty = true := by decide +kernel
theorem ck_L_c_45 : ∀ i, i < 0 → (al_L_45.drop i).head?.all (fun alt => rf_run nm_cl nm_ct en_xs 8 xx_L kc_L cu_L po_L (some .boolean) 1 0 98 16364 (some mu_L_45) 5000 true 318 alt) = true
  | i + 0, h => absurd h (by omega)
theorem ck_L_n_45 : (al_L_45.drop 0).isEmpty = true := by decide +kernel
theorem ck_L_c_46 : ∀ i, i < 0 → (al_L_46.drop i).head?.all (fun alt => rf_run nm_cl nm_ct en_xs 8 xx_L kc_L cu_L po_L (some .boolean) 1 0 98 16364 (some mu_L_46) 5000 true 318 alt) = true
  | i + 0, h => absurd h (by omega)
theorem ck_L_n_46 : (al_L_46.drop 0).isEmpty = true := by decide +kernel
theorem ck_L_c_47 : ∀ i, i < 0 → (al_L_47.drop i).head?.all (fun alt => rf_run nm_cl nm_ct en_xs 8 xx_L kc_L cu_L po_L (some .boolean) 1 0 98 16364 (some mu_L_47) 5000 true 318 alt) = true
  | i + 0, h => absurd h (by omega)
theorem ck_L_n_47 : (al_L_47.drop 0).isEmpty = true := by decide +kernel
theorem ck_L_c_48 : ∀ i, i < 0 → (al_L_48.drop i).head?.all (fun alt => rf_run nm_cl nm_ct en_xs 8 xx_L kc_L cu_L po_L (some .boolean) 1 0 98 16364 (some mu_L_48) 5000 true 318 alt) = true
  | i + 0, h => absurd h (by omega)
theorem ck_L_n_48 : (al_L_48.drop 0).isEmpty = true := by decide +kernel
theorem ck_L_c_49 : ∀ i, i < 0 → (al_L_49.drop i).head?.all (fun alt => rf_run nm_cl nm_ct en_xs 8 xx_L kc_L cu_L po_L (some .boolean) 1 0 98 16364 (some mu_L_49) 5000 true 318 alt) = true
  | i + 0, h => absurd h (by omega)
theorem ck_L_n_49 : (al_L_49.drop 0).isEmpty = true := by decide +kernel
theorem ck_L_b_50_0 : (al_L_50.drop 0).head?.all (fun alt => rf_run nm_cl nm_ct en_xs 8 xx_L kc_L cu_L po_L (some .boolean) 1 0 98 16364 (some mu_L_50) 5000 true 318 alt) = true := by decide +kernel
theorem ck_L_c_50 : ∀ i, i < 1 → (al_L_50.drop i).head?.all (fun alt => rf_run nm_cl nm_ct en_xs 8 xx_L kc_L cu_L po_L (some .boolean) 1 0 98 16364 (some mu_L_50) 5000 true 318 alt) = true
  | 0, _ => ck_L_b_50_0
  | i + 1, h => absurd h (by omega)
theorem ck_L_n_50 : (al_L_50.drop 1).isEmpty = true := by decide +kernel
theorem ck_L_c_51 : ∀ i, i < 0 → (al_L_51.drop i).head?.all (fun alt => rf_run nm_cl nm_ct en_xs 8 xx_L kc_L cu_L po_L (some .boolean) 1 0 98 16364 (some mu_L_51) 5000 true 318 alt) = true
  | i + 0, h => absurd h (by omega)
theorem ck_L_n_51 : (al_L_51.drop 0).isEmpty = true := by decide +kernel
theorem ck_L_c_52 : ∀ i, i < 0 → (al_L_52.drop i).head?.all (fun alt => rf_run nm_cl nm_ct en_xs 8 xx_L kc_L cu_L po_L (some .boolean) 1 0 98 16364 (some mu_L_52) 5000 true 318 alt) = true
  | i + 0, h => absurd h (by omega)
theorem ck_L_n_52 : (al_L_52.drop 0).isEmpty = true := by decide +kernel
theorem ck_L_c_53 : ∀ i, i < 0 → (al_L_53.drop i).head?.all (fun alt => rf_run nm_cl nm_ct en_xs 8 xx_L kc_L cu_L po_L (some .boolean) 1 0 98 16364 (some mu_L_53) 5000 true 318 alt) = true
  | i + 0, h => absurd h (by omega)
theorem ck_L_n_53 : (al_L_53.drop 0).isEmpty = true := by decide +kernel
theorem ck_L_c_54 : ∀ i, i < 0 → (al_L_54.drop i).head?.all (fun alt => rf_run nm_cl nm_ct en_xs 8 xx_L kc_L cu_L po_L (some .boolean) 1 0 98 16364 (some mu_L_54) 5000 true 318 alt) = true
  | i + 0, h => absurd h (by omega)
theorem ck_L_n_54 : (al_L_54.drop 0).isEmpty = true := by decide +kernel
theorem ck_L_c_55 : ∀ i, i < 0 → (al_L_55.drop i).head?.all (fun alt => rf_run nm_cl nm_ct en_xs 8 xx_L kc_L cu_L po_L (some .boolean) 1 0 98 16364 (some mu_L_55) 5000 true 318 alt) = true
  | i + 0, h => absurd h (by omega)
theorem ck_L_n_55 : (al_L_55.drop 0).isEmpty = true := by decide +kernel
theorem ck_L_c_56 : ∀ i, i < 0 → (al_L_56.drop i).head?.all (fun alt => rf_run nm_cl nm_ct en_xs 8 xx_L kc_L cu_L po_L (some .boolean) 1 0 98 16364 (some mu_L_56) 5000 true 318 alt) = true
  | i + 0, h => absurd h (by omega)
theorem ck_L_n_56 : (al_L_56.drop 0).isEmpty = true := by decide +kernel
theorem ck_L_c_57 : ∀ i, i < 0 → (al_L_57.drop i).head?.all (fun alt => rf_run nm_cl nm_ct en_xs 8 xx_L kc_L cu_L po_L (some .boolean) 1 0 98 16364 (some mu_L_57) 5000 true 318 alt) = true
  | i + 0, h => absurd h (by omega)
theorem ck_L_n_57 : (al_L_57.drop 0).isEmpty = true := by decide +kernel
theorem ck_L_c_58 : ∀ i, i < 0 → (al_L_58.drop i).head?.all (fun alt => rf_run nm_cl nm_ct en_xs 8 xx_L kc_L cu_L po_L (some .boolean) 1 0 98 16364 (some mu_L_58) 5000 true 318 alt) = true
  | i + 0, h => absurd h (by omega)
theorem ck_L_n_58 : (al_L_58.drop 0).isEmpty = true := by decide +kernel
theorem ck_L_c_59 : ∀ i, i < 0 → (al_L_59.drop i).head?.all (fun alt => rf_run nm_cl nm_ct en_xs 8 xx_L kc_L cu_L po_L (some .boolean) 1 0 98 16364 (some mu_L_59) 5000 true 318 alt) = true
  | i + 0, h => absurd h (by omega)
theorem ck_L_n_59 : (al_L_59.drop 0).isEmpty = true := by decide +kernel
theorem ck_L_c_60 : ∀ i, i < 0 → (al_L_60.drop i).head?.all (fun alt => rf_run nm_cl nm_ct en_xs 8 xx_L kc_L cu_L po_L (some .boolean) 1 0 98 16364 (some mu_L_60) 5000 true 318 alt) = true
  | i + 0, h => absurd h (by omega)
theorem ck_L_n_60 : (al_L_60.drop 0).isEmpty = true := by decide +kernel
theorem ck_L_b_61_0 : (al_L_61.drop 0).head?.all (fun alt => rf_run nm_cl nm_ct en_xs 8 xx_L kc_L cu_L po_L (some .boolean) 1 0 98 16364 (some mu_L_61) 5000 true 318 alt) = true := by decide +kernel
theorem ck_L_c_61 : ∀ i, i < 1 → (al_L_61.drop i).head?.all (fun alt => rf_run nm_cl nm_ct en_xs 8 xx_L kc_L cu_L po_L (some .boolean) 1 0 98 16364 (some mu_L_61) 5000 true 318 alt) = true
  | 0, _ => ck_L_b_61_0
  | i + 1, h => absurd h (by omega)
theorem ck_L_n_61 : (al_L_61.drop 1).isEmpty = true := by decide +kernel
theorem ck_L_b_62_0 : (al_L_62.drop 0).head?.all (fun alt => rf_run nm_cl nm_ct en_xs 8 xx_L kc_L cu_L po_L (some .boolean) 1 0 98 16364 (some mu_L_62) 5000 true 318 alt) = true := by decide +kernel
theorem ck_L_c_62 : ∀ i, i < 1 → (al_L_62.drop i).head?.all (fun alt => rf_run nm_cl nm_ct en_xs 8 xx_L kc_L cu_L po_L (some .boolean) 1 0 98 16364 (some mu_L_62) 5000 true 318 alt) = true
  | 0, _ => ck_L_b_62_0
  | i + 1, h => absurd h (by omega)
theorem ck_L_n_62 : (al_L_62.drop 1).isEmpty = true := by decide +kernel
theorem ck_L_b_63_0 : (al_L_63.drop 0).head?.all (fun alt => rf_run nm_cl nm_ct en_xs 8 xx_L kc_L cu_L po_L (some .boolean) 1 0 98 16364 (some mu_L_63) 5000 true 323 alt) = true := by decide +kernel
theorem ck_L_c_63 : ∀ i, i < 1 → (al_L_63.drop i).head?.all (fun alt => rf_run nm_cl nm_ct en_xs 8 xx_L kc_L cu_L po_L (some .boolean) 1 0 98 16364 (some mu_L_63) 5000 true 323 alt) = true
  | 0, _ => ck_L_b_63_0
  | i + 1, h => absurd h (by omega)
theorem ck_L_n_63 : (al_L_63.drop 1).isEmpty = true := by decide +kernel
theorem ck_L_b_64_0 : (al_L_64.drop 0).head?.all (fun alt => rf_run nm_cl nm_ct en_xs 8 xx_L kc_L cu_L po_L (some .boolean) 1 0 98 16364 (some mu_L_64) 5000 true 356 alt) = true := by decide +kernel
theorem ck_L_c_64 : ∀ i, i < 1 → (al_L_64.drop i).head?.all (fun alt => rf_run nm_cl nm_ct en_xs 8 xx_L kc_L cu_L po_L (some .boolean) 1 0 98 16364 (some mu_L_64) 5000 true 356 alt) = true
  | 0, _ => ck_L_b_64_0
  | i + 1, h => absurd h (by omega)
theorem ck_L_n_64 : (al_L_64.drop 1).isEmpty = true := by decide +kernel
theorem ck_L_b_65_0 : (al_L_65.drop 0).head?.all (fun alt => rf_run nm_cl nm_ct en_xs 8 xx_L kc_L cu_L po_L (some .boolean) 1 0 98 16364 (some mu_L_65) 5000 true 379 alt) = true := by decide +kernel
theorem ck_L_c_65 : ∀ i, i < 1 → (al_L_65.drop i).head?.all (fun alt => rf_run nm_cl nm_ct en_xs 8 xx_L kc_L cu_L po_L (some .boolean) 1 0 98 16364 (some mu_L_65) 5000 true 379 alt) = true
  | 0, _ => ck_L_b_65_0
  | i + 1, h => absurd h (by omega)
theorem ck_L_n_65 : (al_L_65.drop 1).isEmpty = true := by decide +kernel
theorem ck_L_b_66_0 : (al_L_66.drop 0).head?.all (fun alt => rf_run nm_cl nm_ct en_xs 8 xx_L kc_L cu_L po_L (some .boolean) 1 0 98 16364 (some mu_L_66) 5000 true 392 alt) = true := by decide +kernel
theorem ck_L_c_66 : ∀ i, i < 1 → (al_L_66.drop i).head?.all (fun alt => rf_run nm_cl nm_ct en_xs 8 xx_L kc_L cu_L po_L (some .boolean) 1 0 98 16364 (some mu_L_66) 5000 true 392 alt) = true
  | 0, _ => ck_L_b_66_0
  | i + 1, h => absurd h (by omega)
theorem ck_L_n_66 : (al_L_66.drop 1).isEmpty = true := by decide +kernel
theorem ck_L_b_67_0 : (al_L_67.drop 0).head?.all (fun alt => rf_run nm_cl nm_ct en_xs 8 xx_L kc_L cu_L po_L (some .boolean) 1 0 98 16364 (some mu_L_67) 5000 true 435 alt) = true := by decide +kernel
theorem ck_L_c_67 : ∀ i, i < 1 → (al_L_67.drop i).head?.all (fun alt => rf_run nm_cl nm_ct en_xs 8 xx_L kc_L cu_L po_L (some .boolean) 1 0 98 16364 (some mu_L_67) 5000 true 435 alt) = true
  | 0, _ => ck_L_b_67_0
  | i + 1, h => absurd h (by omega)
theorem ck_L_n_67 : (al_L_67.drop 1).isEmpty = true := by decide +kernel
theorem ck_L_b_68_0 : (al_L_68.drop 0).head?.all (fun alt => rf_run nm_cl nm_ct en_xs 8 xx_L kc_L cu_L po_L (some .boolean) 1 0 98 16364 (some mu_L_68) 5000 true 468 alt) = true := by decide +kernel
theorem ck_L_c_68 : ∀ i, i < 1 → (al_L_68.drop i).head?.all (fun alt => rf_run nm_cl nm_ct en_xs 8 xx_L kc_L cu_L po_L (some .boolean) 1 0 98 16364 (some mu_L_68) 5000 true 468 alt) = true
  | 0, _ => ck_L_b_68_0
  | i + 1, h => absurd h (by omega)
theorem ck_L_n_68 : (al_L_68.drop 1).isEmpty = true := by decide +kernel
theorem ck_L_b_69_0 : (al_L_69.drop 0).head?.all (fun alt => rf_run nm_cl nm_ct en_xs 8 xx_L kc_L cu_L po_L (some .boolean) 1 0 98 16364 (some mu_L_69) 5000 true 511 alt) = true := by decide +kernel
theorem ck_L_c_69 : ∀ i, i < 1 → (al_L_69.drop i).head?.all (fun alt => rf_run nm_cl nm_ct en_xs 8 xx_L kc_L cu_L po_L (some .boolean) 1 0 98 16364 (some mu_L_69) 5000 true 511 alt) = true
  | 0, _ => ck_L_b_69_0
  | i + 1, h => absurd h (by omega)
theorem ck_L_n_69 : (al_L_69.drop 1).isEmpty = true := by decide +kernel
theorem ck_L_b_70_0 : (al_L_70.drop 0).head?.all (fun alt => rf_run nm_cl nm_ct en_xs 8 xx_L kc_L cu_L po_L (some .boolean) 1 0 98 16364 (some mu_L_70) 5000 true 534 alt) = true := by decide +kernel
theorem ck_L_c_70 : ∀ i, i < 1 → (al_L_70.drop i).head?.all (fun alt => rf_run nm_cl nm_ct en_xs 8 xx_L kc_L cu_L po_L (some .boolean) 1 0 98 16364 (some mu_L_70) 5000 true 534 alt) = true
  | 0, _ => ck_L_b_70_0
  | i + 1, h => absurd h (by omega)
theorem ck_L_n_70 : (al_L_70.drop 1).isEmpty = true := by decide +kernel
theorem ck_L_b_71_0 : (al_L_71.drop 0).head?.all (fun alt => rf_run nm_cl nm_ct en_xs 8 xx_L kc_L cu_L po_L (some .boolean) 1 0 98 16364 (some mu_L_71) 5000 true 567 alt) = true := by decide +kernel
theorem ck_L_c_71 : ∀ i, i < 1 → (al_L_71.drop i).head?.all (fun alt => rf_run nm_cl nm_ct en_xs 8 xx_L kc_L cu_L po_L (some .boolean) 1 0 98 16364 (some mu_L_71) 5000 true 567 alt) = true
  | 0, _ => ck_L_b_71_0
  | i + 1, h => absurd h (by omega)
theorem ck_L_n_71 : (al_L_71.drop 1).isEmpty = true := by decide +kernel
theorem ck_L_b_72_0 : (al_L_72.drop 0).head?.all (fun alt => rf_run nm_cl nm_ct en_xs 8 xx_L kc_L cu_L po_L (some .boolean) 1 0 98 16364 (some mu_L_72) 5000 true 610 alt) = true := by decide +kernel
theorem ck_L_c_72 : ∀ i, i < 1 → (al_L_72.drop i).head?.all (fun alt => rf_run nm_cl nm_ct en_xs 8 xx_L kc_L cu_L po_L (some .boolean) 1 0 98 16364 (some mu_L_72) 5000 true 610 alt) = true
  | 0, _ => ck_L_b_72_0
  | i + 1, h => absurd h (by omega)
theorem ck_L_n_72 : (al_L_72.drop 1).isEmpty = true := by decide +kernel
theorem ck_L_b_73_0 : (al_L_73.drop 0).head?.all (fun alt => rf_run nm_cl nm_ct en_xs 8 xx_L kc_L cu_L po_L (some .boolean) 1 0 98 16364 (some mu_L_73) 5000 true 643 alt) = true := by decide +kernel
theorem ck_L_c_73 : ∀ i, i < 1 → (al_L_73.drop i).head?.all (fun alt => rf_run nm_cl nm_ct en_xs 8 xx_L kc_L cu_L po_L (some .boolean) 1 0 98 16364 (some mu_L_73) 5000 true 643 alt) = true
  | 0, _ => ck_L_b_73_0
  | i + 1, h => absurd h (by omega)
theorem ck_L_n_73 : (al_L_73.drop 1).isEmpty = true := by decide +kernel
theorem ck_L_b_74_0 : (al_L_74.drop 0).head?.all (fun alt => rf_run nm_cl nm_ct en_xs 8 xx_L kc_L cu_L po_L (some .boolean) 1 0 98 16364 (some mu_L_74) 5000 true 676 alt) = true := by decide +kernel
theorem ck_L_c_74 : ∀ i, i < 1 → (al_L_74.drop i).head?.all (fun alt => rf_run nm_cl nm_ct en_xs 8 xx_L kc_L cu_L po_L (some .boolean) 1 0 98 16364 (some mu_L_74) 5000 true 676 alt) = true
  | 0, _ => ck_L_b_74_0
  | i + 1, h => absurd h (by omega)
theorem ck_L_n_74 : (al_L_74.drop 1).isEmpty = true := by decide +kernel
theorem ck_L_b_75_0 : (al_L_75.drop 0).head?.all (fun alt => rf_run nm_cl nm_ct en_xs 8 xx_L kc_L cu_L po_L (some .boolean) 1 0 98 16364 (some mu_L_75) 5000 true 709 alt) = true := by decide +kernel
theorem ck_L_c_75 : ∀ i, i < 1 → (al_L_75.drop i).head?.all (fun alt => rf_run nm_cl nm_ct en_xs 8 xx_L kc_L cu_L po_L (some .boolean) 1 0 98 16364 (some mu_L_75) 5000 true 709 alt) = true
  | 0, _ => ck_L_b_75_0
  | i + 1, h => absurd h (by omega)
theorem ck_L_n_75 : (al_L_75.drop 1).isEmpty = true := by decide +kernel
theorem ck_L_b_76_0 : (al_L_76.drop 0).head?.all (fun alt => rf_run nm_cl nm_ct en_xs 8 xx_L kc_L cu_L po_L (some .boolean) 1 0 98 16364 (some mu_L_76) 5000 true 742 alt) = true := by decide +kernel
theorem ck_L_c_76 : ∀ i, i < 1 → (al_L_76.drop i).head?.all (fun alt => rf_run nm_cl nm_ct en_xs 8 xx_L kc_L cu_L po_L (some .boolean) 1 0 98 16364 (some mu_L_76) 5000 true 742 alt) = true
  | 0, _ => ck_L_b_76_0
  | i + 1, h => absurd h (by omega)
theorem ck_L_n_76 : (al_L_76.drop 1).isEmpty = true := by decide +kernel
theorem ck_L_b_77_0 : (al_L_77.drop 0).head?.all (fun alt => rf_run nm_cl nm_ct en_xs 8 xx_L kc_L cu_L po_L (some .boolean) 1 0 98 16364 (some mu_L_77) 5000 true 785 alt) = true := by decide +kernel
theorem ck_L_c_77 : ∀ i, i < 1 → (al_L_77.drop i).head?.all (fun alt => rf_run nm_cl nm_ct en_xs 8 xx_L kc_L cu_L po_L (some .boolean) 1 0 98 16364 (some mu_L_77) 5000 true 785 alt) = true
  | 0, _ => ck_L_b_77_0
  | i + 1, h => absurd h (by omega)
theorem ck_L_n_77 : (al_L_77.drop 1).isEmpty = true := by decide +kernel
theorem ck_L_b_78_0 : (al_L_78.drop 0).head?.all (fun alt => rf_run nm_cl nm_ct en_xs 8 xx_L kc_L cu_L po_L (some .boolean) 1 0 98 16364 (some mu_L_78) 5000 true 818 alt) = true := by decide +kernel
theorem ck_L_c_78 : ∀ i, i < 1 → (al_L_78.drop i).head?.all (fun alt => rf_run nm_cl nm_ct en_xs 8 xx_L kc_L cu_L po_L (some .boolean) 1 0 98 16364 (some mu_L_78) 5000 true 818 alt) = true
  | 0, _ => ck_L_b_78_0
  | i + 1, h => absurd h (by omega)
theorem ck_L_n_78 : (al_L_78.drop 1).isEmpty = true := by decide +kernel
theorem ck_L_b_79_0 : (al_L_79.drop 0).head?.all (fun alt => rf_run nm_cl nm_ct en_xs 8 xx_L kc_L cu_L po_L (some .boolean) 1 0 98 16364 (some mu_L_79) 5000 true 851 alt) = true := by decide +kernel
theorem ck_L_c_79 : ∀ i, i < 1 → (al_L_79.drop i).head?.all (fun alt => rf_run nm_cl nm_ct en_xs 8 xx_L kc_L cu_L po_L (some .boolean) 1 0 98 16364 (some mu_L_79) 5000 true 851 alt) = true
  | 0, _ => ck_L_b_79_0
  | i + 1, h => absurd h (by omega)
theorem ck_L_n_79 : (al_L_79.drop 1).isEmpty = true := by decide +kernel
theorem ck_L_b_80_0 : (al_L_80.drop 0).head?.all (fun alt => rf_run nm_cl nm_ct en_xs 8 xx_L kc_L cu_L po_L (some .boolean) 1 0 98 16364 (some mu_L_80) 5000 true 894 alt) = true := by decide +kernel
theorem ck_L_c_80 : ∀ i, i < 1 → (al_L_80.drop i).head?.all (fun alt => rf_run nm_cl nm_ct en_xs 8 xx_L kc_L cu_L po_L (some .boolean) 1 0 98 16364 (some mu_L_80) 5000 true 894 alt) = true
  | 0, _ => ck_L_b_80_0
  | i + 1, h => absurd h (by omega)
theorem ck_L_n_80 : (al_L_80.drop 1).isEmpty = true := by decide +kernel
theorem ck_L_b_81_0 : (al_L_81.drop 0).head?.all (fun alt => rf_run nm_cl nm_ct en_xs 8 xx_L kc_L cu_L po_L (some .boolean) 1 0 98 16364 (some mu_L_81) 5000 true 937 alt) = true := by decide +kernel
theorem ck_L_c_81 : ∀ i, i < 1 → (al_L_81.drop i).head?.all (fun alt => rf_run nm_cl nm_ct en_xs 8 xx_L kc_L cu_L po_L (some .boolean) 1 0 98 16364 (some mu_L_81) 5000 true 937 alt) = true
  | 0, _ => ck_L_b_81_0
  | i + 1, h => absurd h (by omega)
theorem ck_L_n_81 : (al_L_81.drop 1).isEmpty = true := by decide +kernel
theorem ck_L_b_82_0 : (al_L_82.drop 0).head?.all (fun alt => rf_run nm_cl nm_ct en_xs 8 xx_L kc_L cu_L po_L (some .boolean) 1 0 98 16364 (some mu_L_82) 5000 true 960 alt) = true := by decide +kernel
theorem ck_L_c_82 : ∀ i, i < 1 → (al_L_82.drop i).head?.all (fun alt => rf_run nm_cl nm_ct en_xs 8 xx_L kc_L cu_L po_L (some .boolean) 1 0 98 16364 (some mu_L_82) 5000 true 960 alt) = true
  | 0, _ => ck_L_b_82_0
  | i + 1, h => absurd h (by omega)
theorem ck_L_n_82 : (al_L_82.drop 1).isEmpty = true := by decide +kernel
theorem ck_L_b_83_0 : (al_L_83.drop 0).head?.all (fun alt => rf_run nm_cl nm_ct en_xs 8 xx_L kc_L cu_L po_L (some .boolean) 1 0 98 16364 (some mu_L_83) 5000 true 993 alt) = true := by decide +kernel
theorem ck_L_c_83 : ∀ i, i < 1 → (al_L_83.drop i).head?.all (fun alt => rf_run nm_cl nm_ct en_xs 8 xx_L kc_L cu_L po_L (some .boolean) 1 0 98 16364 (some mu_L_83) 5000 true 993 alt) = true
  | 0, _ => ck_L_b_83_0
  | i + 1, h => absurd h (by omega)
theorem ck_L_n_83 : (al_L_83.drop 1).isEmpty = true := by decide +kernel
theorem ck_L_b_84_0 : (al_L_84.drop 0).head?.all (fun alt => rf_run nm_cl nm_ct en_xs 8 xx_L kc_L cu_L po_L (some .boolean) 1 0 98 16364 (some mu_L_84) 5000 true 1016 alt) = true := by decide +kernel
theorem ck_L_c_84 : ∀ i, i < 1 → (al_L_84.drop i).head?.all (fun alt => rf_run nm_cl nm_ct en_xs 8 xx_L kc_L cu_L po_L (some .boolean) 1 0 98 16364 (some mu_L_84) 5000 true 1016 alt) = true
  | 0, _ => ck_L_b_84_0
  | i + 1, h => absurd h (by omega)
theorem ck_L_n_84 : (al_L_84.drop 1).isEmpty = true := by decide +kernel
theorem ck_L_b_85_0 : (al_L_85.drop 0).head?.all (fun alt => rf_run nm_cl nm_ct en_xs 8 xx_L kc_L cu_L po_L (some .boolean) 1 0 98 16364 (some mu_L_85) 5000 true 1039 alt) = true := by decide +kernel
theorem ck_L_c_85 : ∀ i, i < 1 → (al_L_85.drop i).head?.all (fun alt => rf_run nm_cl nm_ct en_xs 8 xx_L kc_L cu_L po_L (some .boolean) 1 0 98 16364 (some mu_L_85) 5000 true 1039 alt) = true
  | 0, _ => ck_L_b_85_0
  | i + 1, h => absurd h (by omega)
theorem ck_L_n_85 : (al_L_85.drop 1).isEmpty = true := by decide +kernel
theorem ck_L_b_86_0 : (al_L_86.drop 0).head?.all (fun alt => rf_run nm_cl nm_ct en_xs 8 xx_L kc_L cu_L po_L (some .boolean) 1 0 98 16364 (some mu_L_86) 5000 true 1052 alt) = true := by decide +kernel
theorem ck_L_c_86 : ∀ i, i < 1 → (al_L_86.drop i).head?.all (fun alt => rf_run nm_cl nm_ct en_xs 8 xx_L kc_L cu_L po_L (some .boolean) 1 0 98 16364 (some mu_L_86) 5000 true 1052 alt) = true
  | 0, _ => ck_L_b_86_0
  | i + 1, h => absurd h (by omega)
theorem ck_L_n_86 : (al_L_86.drop 1).isEmpty = true := by decide +kernel
theorem ck_L_b_87_0 : (al_L_87.drop 0).head?.all (fun alt => rf_run nm_cl nm_ct en_xs 8 xx_L kc_L cu_L po_L (some .boolean) 1 0 98 16364 (some mu_L_87) 5000 true 1065 alt) = true := by decide +kernel
theorem ck_L_c_87 : ∀ i, i < 1 → (al_L_87.drop i).head?.all (fun alt => rf_run nm_cl nm_ct en_xs 8 xx_L kc_L cu_L po_L (some .boolean) 1 0 98 16364 (some mu_L_87) 5000 true 1065 alt) = true
  | 0, _ => ck_L_b_87_0
  | i + 1, h => absurd h (by omega)
theorem ck_L_n_87 : (al_L_87.drop 1).isEmpty = true := by decide +kernel
theorem ck_L_b_88_0 : (al_L_88.drop 0).head?.all (fun alt => rf_run nm_cl nm_ct en_xs 8 xx_L kc_L cu_L po_L (some .boolean) 1 0 98 16364 (some mu_L_88) 5000 true 1074 alt) = true := by decide +kernel
theorem ck_L_c_88 : ∀ i, i < 1 → (al_L_88.drop i).head?.all (fun alt => rf_run nm_cl nm_ct en_xs 8 xx_L kc_L cu_L po_L (some .boolean) 1 0 98 16364 (some mu_L_88) 5000 true 1074 alt) = true
  | 0, _ => ck_L_b_88_0
  | i + 1, h => absurd h (by omega)
theorem ck_L_n_88 : (al_L_88.drop 1).isEmpty = true := by decide +kernel
theorem ck_L_b_89_0 : (al_L_89.drop 0).head?.all (fun alt => rf_run nm_cl nm_ct en_xs 8 xx_L kc_L cu_L po_L (some .boolean) 1 0 98 16364 (some mu_L_89) 5000 true 1074 alt) = true := by decide +kernel
theorem ck_L_c_89 : ∀ i, i < 1 → (al_L_89.drop i).head?.all (fun alt => rf_run nm_cl nm_ct en_xs 8 xx_L kc_L cu_L po_L (some .boolean) 1 0 98 16364 (some mu_L_89) 5000 true 1074 alt) = true
  | 0, _ => ck_L_b_89_0
  | i + 1, h => absurd h (by omega)
theorem ck_L_n_89 : (al_L_89.drop 1).isEmpty = true := by decide +kernel
theorem ck_L_b_90_0 : (al_L_90.drop 0).head?.all (fun alt => rf_run nm_cl nm_ct en_xs 8 xx_L kc_L cu_L po_L (some .boolean) 1 0 98 16364 (some mu_L_90) 5000 true 1078 alt) = true := by decide +kernel
theorem ck_L_c_90 : ∀ i, i < 1 → (al_L_90.drop i).head?.all (fun alt => rf_run nm_cl nm_ct en_xs 8 xx_L kc_L cu_L po_L (some .boolean) 1 0 98 16364 (some mu_L_90) 5000 true 1078 alt) = true
  | 0, _ => ck_L_b_90_0
  | i + 1, h => absurd h (by omega)
theorem ck_L_n_90 : (al_L_90.drop 1).isEmpty = true := by decide +kernel
theorem ck_L_c_91 : ∀ i, i < 0 → (al_L_91.drop i).head?.all (fun alt => rf_run nm_cl nm_ct en_xs 8 xx_L kc_L cu_L po_L (some .boolean) 1 0 98 16364 (some mu_L_91) 5000 true 1087 alt) = true
  | i + 0, h => absurd h (by omega)
theorem ck_L_n_91 : (al_L_91.drop 0).isEmpty = true := by decide +kernel
theorem ck_L_b_92_0 : (al_L_92.drop 0).head?.all (fun alt => rf_run nm_cl nm_ct en_xs 8 xx_L kc_L cu_L po_L (some .boolean) 1 0 98 16364 (some mu_L_92) 5000 true 1087 alt) = true := by decide +kernel
theorem ck_L_c_92 : ∀ i, i < 1 → (al_L_92.drop i).head?.all (fun alt => rf_run nm_cl nm_ct en_xs 8 xx_L kc_L cu_L po_L (some .boolean) 1 0 98 16364 (some mu_L_92) 5000 true 1087 alt) = true
  | 0, _ => ck_L_b_92_0
  | i + 1, h => absurd h (by omega)
theorem ck_L_n_92 : (al_L_92.drop 1).isEmpty = true := by decide +kernel
theorem ck_L_b_93_0 : (al_L_93.drop 0).head?.all (fun alt => rf_run nm_cl nm_ct en_xs 8 xx_L kc_L cu_L po_L (some .boolean) 1 0 98 16364 (some mu_L_93) 5000 true 1087 alt) = true := by decide +kernel
theorem ck_L_c_93 : ∀ i, i < 1 → (al_L_93.drop i).head?.all (fun alt => rf_run nm_cl nm_ct en_xs 8 xx_L kc_L cu_L po_L (some .boolean) 1 0 98 16364 (some mu_L_93) 5000 true 1087 alt) = true
  | 0, _ => ck_L_b_93_0
  | i + 1, h => absurd h (by omega)
theorem ck_L_n_93 : (al_L_93.drop 1).isEmpty = true := by decide +kernel
theorem ck_L_c_94 : ∀ i, i < 0 → (al_L_94.drop i).head?.all (fun alt => rf_run nm_cl nm_ct en_xs 8 xx_L kc_L cu_L po_L (some .boolean) 1 0 98 16364 (some mu_L_94) 5000 true 1087 alt) = true
  | i + 0, h => absurd h (by omega)
theorem ck_L_n_94 : (al_L_94.drop 0).isEmpty = true := by decide +kernel
theorem ck_L_b_95_0 : (al_L_95.drop 0).head?.all (fun alt => rf_run nm_cl nm_ct en_xs 8 xx_L kc_L cu_L po_L (some .boolean) 1 0 98 16364 (some mu_L_95) 5000 true 1091 alt) = true := by decide +kernel
theorem ck_L_c_95 : ∀ i, i < 1 → (al_L_95.drop i).head?.all (fun alt => rf_run nm_cl nm_ct en_xs 8 xx_L kc_L cu_L po_L (some .boolean) 1 0 98 16364 (some mu_L_95) 5000 true 1091 alt) = true
  | 0, _ => ck_L_b_95_0
  | i + 1, h => absurd h (by omega)
theorem ck_L_n_95 : (al_L_95.drop 1).isEmpty = true := by decide +kernel
theorem ck_L_b_96_0 : (al_L_96.drop 0).head?.all (fun alt => rf_run nm_cl nm_ct en_xs 8 xx_L kc_L cu_L po_L (some .boolean) 1 0 98 16364 (some mu_L_96) 5000 true 1114 alt) = true := by decide +kernel
theorem ck_L_c_96 : ∀ i, i < 1 → (al_L_96.drop i).head?.all (fun alt => rf_run nm_cl nm_ct en_xs 8 xx_L kc_L cu_L po_L (some .boolean) 1 0 98 16364 (some mu_L_96) 5000 true 1114 alt) = true
  | 0, _ => ck_L_b_96_0
  | i + 1, h => absurd h (by omega)
theorem ck_L_n_96 : (al_L_96.drop 1).isEmpty = true := by decide +kernel
