/-! the law: its checks -/
theorem ck_L_a : rf_run nm_cl nm_ct en_xs 8 xx_L kc_L cu_L po_L (some .boolean) 1 0 98 16364 none 5000 false 0 es_L = true := by decide +kernel
theorem ck_L_b_0_0 : (al_L_0.drop 0).head?.all (fun alt => rf_run nm_cl nm_ct en_xs 8 xx_L kc_L cu_L po_L (some .boolean) 1 0 98 16364 (some mu_L_0) 5000 true 18 alt) = true := by decide +kernel
theorem ck_L_c_0 : ∀ i, i < 1 → (al_L_0.drop i).head?.all (fun alt => rf_run nm_cl nm_ct en_xs 8 xx_L kc_L cu_L po_L (some .boolean) 1 0 98 16364 (some mu_L_0) 5000 true 18 alt) = true
  | 0, _ => ck_L_b_0_0
  | i + 1, h => absurd h (by omega)
theorem ck_L_n_0 : (al_L_0.drop 1).isEmpty = true := by decide +kernel
theorem ck_L_b_1_0 : (al_L_1.drop 0).head?.all (fun alt => rf_run nm_cl nm_ct en_xs 8 xx_L kc_L cu_L po_L (some .boolean) 1 0 98 16364 (some mu_L_1) 5000 true 204 alt) = true := by decide +kernel
theorem ck_L_c_1 : ∀ i, i < 1 → (al_L_1.drop i).head?.all (fun alt => rf_run nm_cl nm_ct en_xs 8 xx_L kc_L cu_L po_L (some .boolean) 1 0 98 16364 (some mu_L_1) 5000 true 204 alt) = true
  | 0, _ => ck_L_b_1_0
  | i + 1, h => absurd h (by omega)
theorem ck_L_n_1 : (al_L_1.drop 1).isEmpty = true := by decide +kernel
theorem ck_L_b_2_0 : (al_L_2.drop 0).head?.all (fun alt => rf_run nm_cl nm_ct en_xs 8 xx_L kc_L cu_L po_L (some .boolean) 1 0 98 16364 (some mu_L_2) 5000 true 237 alt) = true := by decide +kernel
theorem ck_L_c_2 : ∀ i, i < 1 → (al_L_2.drop i).head?.all (fun alt => rf_run nm_cl nm_ct en_xs 8 xx_L kc_L cu_L po_L (some .boolean) 1 0 98 16364 (some mu_L_2) 5000 true 237 alt) = true
  | 0, _ => ck_L_b_2_0
  | i + 1, h => absurd h (by omega)
theorem ck_L_n_2 : (al_L_2.drop 1).isEmpty = true := by decide +kernel
theorem ck_L_b_3_0 : (al_L_3.drop 0).head?.all (fun alt => rf_run nm_cl nm_ct en_xs 8 xx_L kc_L cu_L po_L (some .boolean) 1 0 98 16364 (some mu_L_3) 5000 true 280 alt) = true := by decide +kernel
theorem ck_L_c_3 : ∀ i, i < 1 → (al_L_3.drop i).head?.all (fun alt => rf_run nm_cl nm_ct en_xs 8 xx_L kc_L cu_L po_L (some .boolean) 1 0 98 16364 (some mu_L_3) 5000 true 280 alt) = true
  | 0, _ => ck_L_b_3_0
  | i + 1, h => absurd h (by omega)
theorem ck_L_n_3 : (al_L_3.drop 1).isEmpty = true := by decide +kernel
theorem ck_L_b_4_0 : (al_L_4.drop 0).head?.all (fun alt => rf_run nm_cl nm_ct en_xs 8 xx_L kc_L cu_L po_L (some .boolean) 1 0 98 16364 (some mu_L_4) 5000 true 323 alt) = true := by decide +kernel
theorem ck_L_c_4 : ∀ i, i < 1 → (al_L_4.drop i).head?.all (fun alt => rf_run nm_cl nm_ct en_xs 8 xx_L kc_L cu_L po_L (some .boolean) 1 0 98 16364 (some mu_L_4) 5000 true 323 alt) = true
  | 0, _ => ck_L_b_4_0
  | i + 1, h => absurd h (by omega)
theorem ck_L_n_4 : (al_L_4.drop 1).isEmpty = true := by decide +kernel
theorem ck_L_b_5_0 : (al_L_5.drop 0).head?.all (fun alt => rf_run nm_cl nm_ct en_xs 8 xx_L kc_L cu_L po_L (some .boolean) 1 0 98 16364 (some mu_L_5) 5000 true 356 alt) = true := by decide +kernel
theorem ck_L_c_5 : ∀ i, i < 1 → (al_L_5.drop i).head?.all (fun alt => rf_run nm_cl nm_ct en_xs 8 xx_L kc_L cu_L po_L (some .boolean) 1 0 98 16364 (some mu_L_5) 5000 true 356 alt) = true
  | 0, _ => ck_L_b_5_0
  | i + 1, h => absurd h (by omega)
theorem ck_L_n_5 : (al_L_5.drop 1).isEmpty = true := by decide +kernel
theorem ck_L_b_6_0 : (al_L_6.drop 0).head?.all (fun alt => rf_run nm_cl nm_ct en_xs 8 xx_L kc_L cu_L po_L (some .boolean) 1 0 98 16364 (some mu_L_6) 5000 true 379 alt) = true := by decide +kernel
theorem ck_L_c_6 : ∀ i, i < 1 → (al_L_6.drop i).head?.all (fun alt => rf_run nm_cl nm_ct en_xs 8 xx_L kc_L cu_L po_L (some .boolean) 1 0 98 16364 (some mu_L_6) 5000 true 379 alt) = true
  | 0, _ => ck_L_b_6_0
  | i + 1, h => absurd h (by omega)
theorem ck_L_n_6 : (al_L_6.drop 1).isEmpty = true := by decide +kernel
theorem ck_L_b_7_0 : (al_L_7.drop 0).head?.all (fun alt => rf_run nm_cl nm_ct en_xs 8 xx_L kc_L cu_L po_L (some .boolean) 1 0 98 16364 (some mu_L_7) 5000 true 392 alt) = true := by decide +kernel
theorem ck_L_c_7 : ∀ i, i < 1 → (al_L_7.drop i).head?.all (fun alt => rf_run nm_cl nm_ct en_xs 8 xx_L kc_L cu_L po_L (some .boolean) 1 0 98 16364 (some mu_L_7) 5000 true 392 alt) = true
  | 0, _ => ck_L_b_7_0
  | i + 1, h => absurd h (by omega)
theorem ck_L_n_7 : (al_L_7.drop 1).isEmpty = true := by decide +kernel
theorem ck_L_b_8_0 : (al_L_8.drop 0).head?.all (fun alt => rf_run nm_cl nm_ct en_xs 8 xx_L kc_L cu_L po_L (some .boolean) 1 0 98 16364 (some mu_L_8) 5000 true 435 alt) = true := by decide +kernel
theorem ck_L_c_8 : ∀ i, i < 1 → (al_L_8.drop i).head?.all (fun alt => rf_run nm_cl nm_ct en_xs 8 xx_L kc_L cu_L po_L (some .boolean) 1 0 98 16364 (some mu_L_8) 5000 true 435 alt) = true
  | 0, _ => ck_L_b_8_0
  | i + 1, h => absurd h (by omega)
theorem ck_L_n_8 : (al_L_8.drop 1).isEmpty = true := by decide +kernel
theorem ck_L_b_9_0 : (al_L_9.drop 0).head?.all (fun alt => rf_run nm_cl nm_ct en_xs 8 xx_L kc_L cu_L po_L (some .boolean) 1 0 98 16364 (some mu_L_9) 5000 true 468 alt) = true := by decide +kernel
theorem ck_L_c_9 : ∀ i, i < 1 → (al_L_9.drop i).head?.all (fun alt => rf_run nm_cl nm_ct en_xs 8 xx_L kc_L cu_L po_L (some .boolean) 1 0 98 16364 (some mu_L_9) 5000 true 468 alt) = true
  | 0, _ => ck_L_b_9_0
  | i + 1, h => absurd h (by omega)
theorem ck_L_n_9 : (al_L_9.drop 1).isEmpty = true := by decide +kernel
theorem ck_L_b_10_0 : (al_L_10.drop 0).head?.all (fun alt => rf_run nm_cl nm_ct en_xs 8 xx_L kc_L cu_L po_L (some .boolean) 1 0 98 16364 (some mu_L_10) 5000 true 511 alt) = true := by decide +kernel
theorem ck_L_c_10 : ∀ i, i < 1 → (al_L_10.drop i).head?.all (fun alt => rf_run nm_cl nm_ct en_xs 8 xx_L kc_L cu_L po_L (some .boolean) 1 0 98 16364 (some mu_L_10) 5000 true 511 alt) = true
  | 0, _ => ck_L_b_10_0
  | i + 1, h => absurd h (by omega)
theorem ck_L_n_10 : (al_L_10.drop 1).isEmpty = true := by decide +kernel
theorem ck_L_b_11_0 : (al_L_11.drop 0).head?.all (fun alt => rf_run nm_cl nm_ct en_xs 8 xx_L kc_L cu_L po_L (some .boolean) 1 0 98 16364 (some mu_L_11) 5000 true 534 alt) = true := by decide +kernel
theorem ck_L_c_11 : ∀ i, i < 1 → (al_L_11.drop i).head?.all (fun alt => rf_run nm_cl nm_ct en_xs 8 xx_L kc_L cu_L po_L (some .boolean) 1 0 98 16364 (some mu_L_11) 5000 true 534 alt) = true
  | 0, _ => ck_L_b_11_0
  | i + 1, h => absurd h (by omega)
theorem ck_L_n_11 : (al_L_11.drop 1).isEmpty = true := by decide +kernel
theorem ck_L_b_12_0 : (al_L_12.drop 0).head?.all (fun alt => rf_run nm_cl nm_ct en_xs 8 xx_L kc_L cu_L po_L (some .boolean) 1 0 98 16364 (some mu_L_12) 5000 true 567 alt) = true := by decide +kernel
theorem ck_L_c_12 : ∀ i, i < 1 → (al_L_12.drop i).head?.all (fun alt => rf_run nm_cl nm_ct en_xs 8 xx_L kc_L cu_L po_L (some .boolean) 1 0 98 16364 (some mu_L_12) 5000 true 567 alt) = true
  | 0, _ => ck_L_b_12_0
  | i + 1, h => absurd h (by omega)
theorem ck_L_n_12 : (al_L_12.drop 1).isEmpty = true := by decide +kernel
theorem ck_L_b_13_0 : (al_L_13.drop 0).head?.all (fun alt => rf_run nm_cl nm_ct en_xs 8 xx_L kc_L cu_L po_L (some .boolean) 1 0 98 16364 (some mu_L_13) 5000 true 610 alt) = true := by decide +kernel
theorem ck_L_c_13 : ∀ i, i < 1 → (al_L_13.drop i).head?.all (fun alt => rf_run nm_cl nm_ct en_xs 8 xx_L kc_L cu_L po_L (some .boolean) 1 0 98 16364 (some mu_L_13) 5000 true 610 alt) = true
  | 0, _ => ck_L_b_13_0
  | i + 1, h => absurd h (by omega)
theorem ck_L_n_13 : (al_L_13.drop 1).isEmpty = true := by decide +kernel
theorem ck_L_b_14_0 : (al_L_14.drop 0).head?.all (fun alt => rf_run nm_cl nm_ct en_xs 8 xx_L kc_L cu_L po_L (some .boolean) 1 0 98 16364 (some mu_L_14) 5000 true 643 alt) = true := by decide +kernel
theorem ck_L_c_14 : ∀ i, i < 1 → (al_L_14.drop i).head?.all (fun alt => rf_run nm_cl nm_ct en_xs 8 xx_L kc_L cu_L po_L (some .boolean) 1 0 98 16364 (some mu_L_14) 5000 true 643 alt) = true
  | 0, _ => ck_L_b_14_0
  | i + 1, h => absurd h (by omega)
theorem ck_L_n_14 : (al_L_14.drop 1).isEmpty = true := by decide +kernel
theorem ck_L_b_15_0 : (al_L_15.drop 0).head?.all (fun alt => rf_run nm_cl nm_ct en_xs 8 xx_L kc_L cu_L po_L (some .boolean) 1 0 98 16364 (some mu_L_15) 5000 true 676 alt) = true := by decide +kernel
theorem ck_L_c_15 : ∀ i, i < 1 → (al_L_15.drop i).head?.all (fun alt => rf_run nm_cl nm_ct en_xs 8 xx_L kc_L cu_L po_L (some .boolean) 1 0 98 16364 (some mu_L_15) 5000 true 676 alt) = true
  | 0, _ => ck_L_b_15_0
  | i + 1, h => absurd h (by omega)
theorem ck_L_n_15 : (al_L_15.drop 1).isEmpty = true := by decide +kernel
theorem ck_L_b_16_0 : (al_L_16.drop 0).head?.all (fun alt => rf_run nm_cl nm_ct en_xs 8 xx_L kc_L cu_L po_L (some .boolean) 1 0 98 16364 (some mu_L_16) 5000 true 709 alt) = true := by decide +kernel
theorem ck_L_c_16 : ∀ i, i < 1 → (al_L_16.drop i).head?.all (fun alt => rf_run nm_cl nm_ct en_xs 8 xx_L kc_L cu_L po_L (some .boolean) 1 0 98 16364 (some mu_L_16) 5000 true 709 alt) = true
  | 0, _ => ck_L_b_16_0
  | i + 1, h => absurd h (by omega)
theorem ck_L_n_16 : (al_L_16.drop 1).isEmpty = true := by decide +kernel
theorem ck_L_b_17_0 : (al_L_17.drop 0).head?.all (fun alt => rf_run nm_cl nm_ct en_xs 8 xx_L kc_L cu_L po_L (some .boolean) 1 0 98 16364 (some mu_L_17) 5000 true 742 alt) = true := by decide +kernel
theorem ck_L_c_17 : ∀ i, i < 1 → (al_L_17.drop i).head?.all (fun alt => rf_run nm_cl nm_ct en_xs 8 xx_L kc_L cu_L po_L (some .boolean) 1 0 98 16364 (some mu_L_17) 5000 true 742 alt) = true
  | 0, _ => ck_L_b_17_0
  | i + 1, h => absurd h (by omega)
theorem ck_L_n_17 : (al_L_17.drop 1).isEmpty = true := by decide +kernel
theorem ck_L_b_18_0 : (al_L_18.drop 0).head?.all (fun alt => rf_run nm_cl nm_ct en_xs 8 xx_L kc_L cu_L po_L (some .boolean) 1 0 98 16364 (some mu_L_18) 5000 true 785 alt) = true := by decide +kernel
theorem ck_L_c_18 : ∀ i, i < 1 → (al_L_18.drop i).head?.all (fun alt => rf_run nm_cl nm_ct en_xs 8 xx_L kc_L cu_L po_L (some .boolean) 1 0 98 16364 (some mu_L_18) 5000 true 785 alt) = true
  | 0, _ => ck_L_b_18_0
  | i + 1, h => absurd h (by omega)
theorem ck_L_n_18 : (al_L_18.drop 1).isEmpty = true := by decide +kernel
theorem ck_L_b_19_0 : (al_L_19.drop 0).head?.all (fun alt => rf_run nm_cl nm_ct en_xs 8 xx_L kc_L cu_L po_L (some .boolean) 1 0 98 16364 (some mu_L_19) 5000 true 818 alt) = true := by decide +kernel
theorem ck_L_c_19 : ∀ i, i < 1 → (al_L_19.drop i).head?.all (fun alt => rf_run nm_cl nm_ct en_xs 8 xx_L kc_L cu_L po_L (some .boolean) 1 0 98 16364 (some mu_L_19) 5000 true 818 alt) = true
  | 0, _ => ck_L_b_19_0
  | i + 1, h => absurd h (by omega)
theorem ck_L_n_19 : (al_L_19.drop 1).isEmpty = true := by decide +kernel
theorem ck_L_b_20_0 : (al_L_20.drop 0).head?.all (fun alt => rf_run nm_cl nm_ct en_xs 8 xx_L kc_L cu_L po_L (some .boolean) 1 0 98 16364 (some mu_L_20) 5000 true 851 alt) = true := by decide +kernel
theorem ck_L_c_20 : ∀ i, i < 1 → (al_L_20.drop i).head?.all (fun alt => rf_run nm_cl nm_ct en_xs 8 xx_L kc_L cu_L po_L (some .boolean) 1 0 98 16364 (some mu_L_20) 5000 true 851 alt) = true
  | 0, _ => ck_L_b_20_0
  | i + 1, h => absurd h (by omega)
theorem ck_L_n_20 : (al_L_20.drop 1).isEmpty = true := by decide +kernel
theorem ck_L_b_21_0 : (al_L_21.drop 0).head?.all (fun alt => rf_run nm_cl nm_ct en_xs 8 xx_L kc_L cu_L po_L (some .boolean) 1 0 98 16364 (some mu_L_21) 5000 true 894 alt) = true := by decide +kernel
theorem ck_L_c_21 : ∀ i, i < 1 → (al_L_21.drop i).head?.all (fun alt => rf_run nm_cl nm_ct en_xs 8 xx_L kc_L cu_L po_L (some .boolean) 1 0 98 16364 (some mu_L_21) 5000 true 894 alt) = true
  | 0, _ => ck_L_b_21_0
  | i + 1, h => absurd h (by omega)
theorem ck_L_n_21 : (al_L_21.drop 1).isEmpty = true := by decide +kernel
theorem ck_L_b_22_0 : (al_L_22.drop 0).head?.all (fun alt => rf_run nm_cl nm_ct en_xs 8 xx_L kc_L cu_L po_L (some .boolean) 1 0 98 16364 (some mu_L_22) 5000 true 937 alt) = true := by decide +kernel
theorem ck_L_c_22 : ∀ i, i < 1 → (al_L_22.drop i).head?.all (fun alt => rf_run nm_cl nm_ct en_xs 8 xx_L kc_L cu_L po_L (some .boolean) 1 0 98 16364 (some mu_L_22) 5000 true 937 alt) = true
  | 0, _ => ck_L_b_22_0
  | i + 1, h => absurd h (by omega)
theorem ck_L_n_22 : (al_L_22.drop 1).isEmpty = true := by decide +kernel
theorem ck_L_b_23_0 : (al_L_23.drop 0).head?.all (fun alt => rf_run nm_cl nm_ct en_xs 8 xx_L kc_L cu_L po_L (some .boolean) 1 0 98 16364 (some mu_L_23) 5000 true 960 alt) = true := by decide +kernel
theorem ck_L_c_23 : ∀ i, i < 1 → (al_L_23.drop i).head?.all (fun alt => rf_run nm_cl nm_ct en_xs 8 xx_L kc_L cu_L po_L (some .boolean) 1 0 98 16364 (some mu_L_23) 5000 true 960 alt) = true
  | 0, _ => ck_L_b_23_0
  | i + 1, h => absurd h (by omega)
theorem ck_L_n_23 : (al_L_23.drop 1).isEmpty = true := by decide +kernel
theorem ck_L_b_24_0 : (al_L_24.drop 0).head?.all (fun alt => rf_run nm_cl nm_ct en_xs 8 xx_L kc_L cu_L po_L (some .boolean) 1 0 98 16364 (some mu_L_24) 5000 true 993 alt) = true := by decide +kernel
theorem ck_L_c_24 : ∀ i, i < 1 → (al_L_24.drop i).head?.all (fun alt => rf_run nm_cl nm_ct en_xs 8 xx_L kc_L cu_L po_L (some .boolean) 1 0 98 16364 (some mu_L_24) 5000 true 993 alt) = true
  | 0, _ => ck_L_b_24_0
  | i + 1, h => absurd h (by omega)
theorem ck_L_n_24 : (al_L_24.drop 1).isEmpty = true := by decide +kernel
theorem ck_L_b_25_0 : (al_L_25.drop 0).head?.all (fun alt => rf_run nm_cl nm_ct en_xs 8 xx_L kc_L cu_L po_L (some .boolean) 1 0 98 16364 (some mu_L_25) 5000 true 1016 alt) = true := by decide +kernel
theorem ck_L_c_25 : ∀ i, i < 1 → (al_L_25.drop i).head?.all (fun alt => rf_run nm_cl nm_ct en_xs 8 xx_L kc_L cu_L po_L (some .boolean) 1 0 98 16364 (some mu_L_25) 5000 true 1016 alt) = true
  | 0, _ => ck_L_b_25_0
  | i + 1, h => absurd h (by omega)
theorem ck_L_n_25 : (al_L_25.drop 1).isEmpty = true := by decide +kernel
theorem ck_L_b_26_0 : (al_L_26.drop 0).head?.all (fun alt => rf_run nm_cl nm_ct en_xs 8 xx_L kc_L cu_L po_L (some .boolean) 1 0 98 16364 (some mu_L_26) 5000 true 1039 alt) = true := by decide +kernel
theorem ck_L_c_26 : ∀ i, i < 1 → (al_L_26.drop i).head?.all (fun alt => rf_run nm_cl nm_ct en_xs 8 xx_L kc_L cu_L po_L (some .boolean) 1 0 98 16364 (some mu_L_26) 5000 true 1039 alt) = true
  | 0, _ => ck_L_b_26_0
  | i + 1, h => absurd h (by omega)
theorem ck_L_n_26 : (al_L_26.drop 1).isEmpty = true := by decide +kernel
theorem ck_L_b_27_0 : (al_L_27.drop 0).head?.all (fun alt => rf_run nm_cl nm_ct en_xs 8 xx_L kc_L cu_L po_L (some .boolean) 1 0 98 16364 (some mu_L_27) 5000 true 1052 alt) = true := by decide +kernel
theorem ck_L_c_27 : ∀ i, i < 1 → (al_L_27.drop i).head?.all (fun alt => rf_run nm_cl nm_ct en_xs 8 xx_L kc_L cu_L po_L (some .boolean) 1 0 98 16364 (some mu_L_27) 5000 true 1052 alt) = true
  | 0, _ => ck_L_b_27_0
  | i + 1, h => absurd h (by omega)
theorem ck_L_n_27 : (al_L_27.drop 1).isEmpty = true := by decide +kernel
theorem ck_L_b_28_0 : (al_L_28.drop 0).head?.all (fun alt => rf_run nm_cl nm_ct en_xs 8 xx_L kc_L cu_L po_L (some .boolean) 1 0 98 16364 (some mu_L_28) 5000 true 1065 alt) = true := by decide +kernel
theorem ck_L_c_28 : ∀ i, i < 1 → (al_L_28.drop i).head?.all (fun alt => rf_run nm_cl nm_ct en_xs 8 xx_L kc_L cu_L po_L (some .boolean) 1 0 98 16364 (some mu_L_28) 5000 true 1065 alt) = true
  | 0, _ => ck_L_b_28_0
  | i + 1, h => absurd h (by omega)
theorem ck_L_n_28 : (al_L_28.drop 1).isEmpty = true := by decide +kernel
theorem ck_L_b_29_0 : (al_L_29.drop 0).head?.all (fun alt => rf_run nm_cl nm_ct en_xs 8 xx_L kc_L cu_L po_L (some .boolean) 1 0 98 16364 (some mu_L_29) 5000 true 1078 alt) = true := by decide +kernel
theorem ck_L_c_29 : ∀ i, i < 1 → (al_L_29.drop i).head?.all (fun alt => rf_run nm_cl nm_ct en_xs 8 xx_L kc_L cu_L po_L (some .boolean) 1 0 98 16364 (some mu_L_29) 5000 true 1078 alt) = true
  | 0, _ => ck_L_b_29_0
  | i + 1, h => absurd h (by omega)
theorem ck_L_n_29 : (al_L_29.drop 1).isEmpty = true := by decide +kernel
theorem ck_L_b_30_0 : (al_L_30.drop 0).head?.all (fun alt => rf_run nm_cl nm_ct en_xs 8 xx_L kc_L cu_L po_L (some .boolean) 1 0 98 16364 (some mu_L_30) 5000 true 1091 alt) = true := by decide +kernel
theorem ck_L_c_30 : ∀ i, i < 1 → (al_L_30.drop i).head?.all (fun alt => rf_run nm_cl nm_ct en_xs 8 xx_L kc_L cu_L po_L (some .boolean) 1 0 98 16364 (some mu_L_30) 5000 true 1091 alt) = true
  | 0, _ => ck_L_b_30_0
  | i + 1, h => absurd h (by omega)
theorem ck_L_n_30 : (al_L_30.drop 1).isEmpty = true := by decide +kernel
theorem ck_L_b_31_0 : (al_L_31.drop 0).head?.all (fun alt => rf_run nm_cl nm_ct en_xs 8 xx_L kc_L cu_L po_L (some .boolean) 1 0 98 16364 (some mu_L_31) 5000 true 1114 alt) = true := by decide +kernel
theorem ck_L_c_31 : ∀ i, i < 1 → (al_L_31.drop i).head?.all (fun alt => rf_run nm_cl nm_ct en_xs 8 xx_L kc_L cu_L po_L (some .boolean) 1 0 98 16364 (some mu_L_31) 5000 true 1114 alt) = true
  | 0, _ => ck_L_b_31_0
  | i + 1, h => absurd h (by omega)
theorem ck_L_n_31 : (al_L_31.drop 1).isEmpty = true := by decide +kernel
theorem ck_L_b_32_0 : (al_L_32.drop 0).head?.all (fun alt => rf_run nm_cl nm_ct en_xs 8 xx_L kc_L cu_L po_L (some .boolean) 1 0 98 16364 (some mu_L_32) 5000 true 1157 alt) = true := by decide +kernel
theorem ck_L_c_32 : ∀ i, i < 1 → (al_L_32.drop i).head?.all (fun alt => rf_run nm_cl nm_ct en_xs 8 xx_L kc_L cu_L po_L (some .boolean) 1 0 98 16364 (some mu_L_32) 5000 true 1157 alt) = true
  | 0, _ => ck_L_b_32_0
  | i + 1, h => absurd h (by omega)
theorem ck_L_n_32 : (al_L_32.drop 1).isEmpty = true := by decide +kernel
theorem ck_L_b_33_0 : (al_L_33.drop 0).head?.all (fun alt => rf_run nm_cl nm_ct en_xs 8 xx_L kc_L cu_L po_L (some .boolean) 1 0 98 16364 (some mu_L_33) 5000 true 1180 alt) = true := by decide +kernel
theorem ck_L_c_33 : ∀ i, i < 1 → (al_L_33.drop i).head?.all (fun alt => rf_run nm_cl nm_ct en_xs 8 xx_L kc_L cu_L po_L (some .boolean) 1 0 98 16364 (some mu_L_33) 5000 true 1180 alt) = true
  | 0, _ => ck_L_b_33_0
  | i + 1, h => absurd h (by omega)
theorem ck_L_n_33 : (al_L_33.drop 1).isEmpty = true := by decide +kernel
theorem ck_L_b_34_0 : (al_L_34.drop 0).head?.all (fun alt => rf_run nm_cl nm_ct en_xs 8 xx_L kc_L cu_L po_L (some .boolean) 1 0 98 16364 (some mu_L_34) 5000 true 1213 alt) = true := by decide +kernel
theorem ck_L_c_34 : ∀ i, i < 1 → (al_L_34.drop i).head?.all (fun alt => rf_run nm_cl nm_ct en_xs 8 xx_L kc_L cu_L po_L (some .boolean) 1 0 98 16364 (some mu_L_34) 5000 true 1213 alt) = true
  | 0, _ => ck_L_b_34_0
  | i + 1, h => absurd h (by omega)
theorem ck_L_n_34 : (al_L_34.drop 1).isEmpty = true := by decide +kernel
theorem ck_L_b_35_0 : (al_L_35.drop 0).head?.all (fun alt => rf_run nm_cl nm_ct en_xs 8 xx_L kc_L cu_L po_L (some .boolean) 1 0 98 16364 (some mu_L_35) 5000 true 1256 alt) = true := by decide +kernel
theorem ck_L_c_35 : ∀ i, i < 1 → (al_L_35.drop i).head?.all (fun alt => rf_run nm_cl nm_ct en_xs 8 xx_L kc_L cu_L po_L (some .boolean) 1 0 98 16364 (some mu_L_35) 5000 true 1256 alt) = true
  | 0, _ => ck_L_b_35_0
  | i + 1, h => absurd h (by omega)
theorem ck_L_n_35 : (al_L_35.drop 1).isEmpty = true := by decide +kernel
theorem ck_L_b_36_0 : (al_L_36.drop 0).head?.all (fun alt => rf_run nm_cl nm_ct en_xs 8 xx_L kc_L cu_L po_L (some .boolean) 1 0 98 16364 (some mu_L_36) 5000 true 1329 alt) = true := by decide +kernel
theorem ck_L_c_36 : ∀ i, i < 1 → (al_L_36.drop i).head?.all (fun alt => rf_run nm_cl nm_ct en_xs 8 xx_L kc_L cu_L po_L (some .boolean) 1 0 98 16364 (some mu_L_36) 5000 true 1329 alt) = true
  | 0, _ => ck_L_b_36_0
  | i + 1, h => absurd h (by omega)
theorem ck_L_n_36 : (al_L_36.drop 1).isEmpty = true := by decide +kernel
theorem ck_L_b_37_0 : (al_L_37.drop 0).head?.all (fun alt => rf_run nm_cl nm_ct en_xs 8 xx_L kc_L cu_L po_L (some .boolean) 1 0 98 16364 (some mu_L_37) 5000 true 1362 alt) = true := by decide +kernel
theorem ck_L_c_37 : ∀ i, i < 1 → (al_L_37.drop i).head?.all (fun alt => rf_run nm_cl nm_ct en_xs 8 xx_L kc_L cu_L po_L (some .boolean) 1 0 98 16364 (some mu_L_37) 5000 true 1362 alt) = true
  | 0, _ => ck_L_b_37_0
  | i + 1, h => absurd h (by omega)
theorem ck_L_n_37 : (al_L_37.drop 1).isEmpty = true := by decide +kernel
theorem ck_L_b_38_0 : (al_L_38.drop 0).head?.all (fun alt => rf_run nm_cl nm_ct en_xs 8 xx_L kc_L cu_L po_L (some .boolean) 1 0 98 16364 (some mu_L_38) 5000 true 1425 alt) = true := by decide +kernel
theorem ck_L_c_38 : ∀ i, i < 1 → (al_L_38.drop i).head?.all (fun alt => rf_run nm_cl nm_ct en_xs 8 xx_L kc_L cu_L po_L (some .boolean) 1 0 98 16364 (some mu_L_38) 5000 true 1425 alt) = true
  | 0, _ => ck_L_b_38_0
  | i + 1, h => absurd h (by omega)
theorem ck_L_n_38 : (al_L_38.drop 1).isEmpty = true := by decide +kernel
theorem ck_L_b_39_0 : (al_L_39.drop 0).head?.all (fun alt => rf_run nm_cl nm_ct en_xs 8 xx_L kc_L cu_L po_L (some .boolean) 1 0 98 16364 (some mu_L_39) 5000 true 1458 alt) = true := by decide +kernel
theorem ck_L_c_39 : ∀ i, i < 1 → (al_L_39.drop i).head?.all (fun alt => rf_run nm_cl nm_ct en_xs 8 xx_L kc_L cu_L po_L (some .boolean) 1 0 98 16364 (some mu_L_39) 5000 true 1458 alt) = true
  | 0, _ => ck_L_b_39_0
  | i + 1, h => absurd h (by omega)
theorem ck_L_n_39 : (al_L_39.drop 1).isEmpty = true := by decide +kernel
