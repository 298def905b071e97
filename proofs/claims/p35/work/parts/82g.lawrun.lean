/-! the law: its check -/
theorem ck_L_c_0 : ∀ i, i < 1 → (al_L_0.drop i).head?.all (fun alt => rf_run nm_cl nm_ct en_xs 8 xx_L kc_L cu_L po_L (some .boolean) 1 0 98 16364 (some mu_L_0) 5000 true 18 alt) = true
  | 0, _ => ck_L_b_0_0
  | i + 1, h => absurd h (by omega)
theorem ck_L_n_0 : (al_L_0.drop 1).isEmpty = true := by decide +kernel
theorem ck_L_c_1 : ∀ i, i < 6 → (al_L_1.drop i).head?.all (fun alt => rf_run nm_cl nm_ct en_xs 8 xx_L kc_L cu_L po_L (some .boolean) 1 0 98 16364 (some mu_L_1) 5000 true 33 alt) = true
  | 0, _ => ck_L_b_1_0
  | 1, _ => ck_L_b_1_1
  | 2, _ => ck_L_b_1_2
  | 3, _ => ck_L_b_1_3
  | 4, _ => ck_L_b_1_4
  | 5, _ => ck_L_b_1_5
  | i + 6, h => absurd h (by omega)
theorem ck_L_n_1 : (al_L_1.drop 6).isEmpty = true := by decide +kernel
theorem ck_L_c_2 : ∀ i, i < 1 → (al_L_2.drop i).head?.all (fun alt => rf_run nm_cl nm_ct en_xs 8 xx_L kc_L cu_L po_L (some .boolean) 1 0 98 16364 (some mu_L_2) 5000 true 204 alt) = true
  | 0, _ => ck_L_b_2_0
  | i + 1, h => absurd h (by omega)
theorem ck_L_n_2 : (al_L_2.drop 1).isEmpty = true := by decide +kernel
theorem ck_L_c_3 : ∀ i, i < 1 → (al_L_3.drop i).head?.all (fun alt => rf_run nm_cl nm_ct en_xs 8 xx_L kc_L cu_L po_L (some .boolean) 1 0 98 16364 (some mu_L_3) 5000 true 219 alt) = true
  | 0, _ => ck_L_b_3_0
  | i + 1, h => absurd h (by omega)
theorem ck_L_n_3 : (al_L_3.drop 1).isEmpty = true := by decide +kernel
theorem ck_L_c_4 : ∀ i, i < 1 → (al_L_4.drop i).head?.all (fun alt => rf_run nm_cl nm_ct en_xs 8 xx_L kc_L cu_L po_L (some .boolean) 1 0 98 16364 (some mu_L_4) 5000 true 237 alt) = true
  | 0, _ => ck_L_b_4_0
  | i + 1, h => absurd h (by omega)
theorem ck_L_n_4 : (al_L_4.drop 1).isEmpty = true := by decide +kernel
theorem ck_L_c_5 : ∀ i, i < 1 → (al_L_5.drop i).head?.all (fun alt => rf_run nm_cl nm_ct en_xs 8 xx_L kc_L cu_L po_L (some .boolean) 1 0 98 16364 (some mu_L_5) 5000 true 257 alt) = true
  | 0, _ => ck_L_b_5_0
  | i + 1, h => absurd h (by omega)
theorem ck_L_n_5 : (al_L_5.drop 1).isEmpty = true := by decide +kernel
theorem ck_L_c_6 : ∀ i, i < 1 → (al_L_6.drop i).head?.all (fun alt => rf_run nm_cl nm_ct en_xs 8 xx_L kc_L cu_L po_L (some .boolean) 1 0 98 16364 (some mu_L_6) 5000 true 280 alt) = true
  | 0, _ => ck_L_b_6_0
  | i + 1, h => absurd h (by omega)
theorem ck_L_n_6 : (al_L_6.drop 1).isEmpty = true := by decide +kernel
theorem ck_L_c_7 : ∀ i, i < 1 → (al_L_7.drop i).head?.all (fun alt => rf_run nm_cl nm_ct en_xs 8 xx_L kc_L cu_L po_L (some .boolean) 1 0 98 16364 (some mu_L_7) 5000 true 300 alt) = true
  | 0, _ => ck_L_b_7_0
  | i + 1, h => absurd h (by omega)
theorem ck_L_n_7 : (al_L_7.drop 1).isEmpty = true := by decide +kernel
theorem ck_L_c_8 : ∀ i, i < 1 → (al_L_8.drop i).head?.all (fun alt => rf_run nm_cl nm_ct en_xs 8 xx_L kc_L cu_L po_L (some .boolean) 1 0 98 16364 (some mu_L_8) 5000 true 323 alt) = true
  | 0, _ => ck_L_b_8_0
  | i + 1, h => absurd h (by omega)
theorem ck_L_n_8 : (al_L_8.drop 1).isEmpty = true := by decide +kernel
theorem ck_L_c_9 : ∀ i, i < 1 → (al_L_9.drop i).head?.all (fun alt => rf_run nm_cl nm_ct en_xs 8 xx_L kc_L cu_L po_L (some .boolean) 1 0 98 16364 (some mu_L_9) 5000 true 338 alt) = true
  | 0, _ => ck_L_b_9_0
  | i + 1, h => absurd h (by omega)
theorem ck_L_n_9 : (al_L_9.drop 1).isEmpty = true := by decide +kernel
theorem ck_L_c_10 : ∀ i, i < 1 → (al_L_10.drop i).head?.all (fun alt => rf_run nm_cl nm_ct en_xs 8 xx_L kc_L cu_L po_L (some .boolean) 1 0 98 16364 (some mu_L_10) 5000 true 356 alt) = true
  | 0, _ => ck_L_b_10_0
  | i + 1, h => absurd h (by omega)
theorem ck_L_n_10 : (al_L_10.drop 1).isEmpty = true := by decide +kernel
theorem ck_L_c_11 : ∀ i, i < 1 → (al_L_11.drop i).head?.all (fun alt => rf_run nm_cl nm_ct en_xs 8 xx_L kc_L cu_L po_L (some .boolean) 1 0 98 16364 (some mu_L_11) 5000 true 366 alt) = true
  | 0, _ => ck_L_b_11_0
  | i + 1, h => absurd h (by omega)
theorem ck_L_n_11 : (al_L_11.drop 1).isEmpty = true := by decide +kernel
theorem ck_L_c_12 : ∀ i, i < 1 → (al_L_12.drop i).head?.all (fun alt => rf_run nm_cl nm_ct en_xs 8 xx_L kc_L cu_L po_L (some .boolean) 1 0 98 16364 (some mu_L_12) 5000 true 379 alt) = true
  | 0, _ => ck_L_b_12_0
  | i + 1, h => absurd h (by omega)
theorem ck_L_n_12 : (al_L_12.drop 1).isEmpty = true := by decide +kernel
theorem ck_L_c_13 : ∀ i, i < 1 → (al_L_13.drop i).head?.all (fun alt => rf_run nm_cl nm_ct en_xs 8 xx_L kc_L cu_L po_L (some .boolean) 1 0 98 16364 (some mu_L_13) 5000 true 392 alt) = true
  | 0, _ => ck_L_b_13_0
  | i + 1, h => absurd h (by omega)
theorem ck_L_n_13 : (al_L_13.drop 1).isEmpty = true := by decide +kernel
theorem ck_L_c_14 : ∀ i, i < 1 → (al_L_14.drop i).head?.all (fun alt => rf_run nm_cl nm_ct en_xs 8 xx_L kc_L cu_L po_L (some .boolean) 1 0 98 16364 (some mu_L_14) 5000 true 412 alt) = true
  | 0, _ => ck_L_b_14_0
  | i + 1, h => absurd h (by omega)
theorem ck_L_n_14 : (al_L_14.drop 1).isEmpty = true := by decide +kernel
theorem ck_L_c_15 : ∀ i, i < 1 → (al_L_15.drop i).head?.all (fun alt => rf_run nm_cl nm_ct en_xs 8 xx_L kc_L cu_L po_L (some .boolean) 1 0 98 16364 (some mu_L_15) 5000 true 435 alt) = true
  | 0, _ => ck_L_b_15_0
  | i + 1, h => absurd h (by omega)
theorem ck_L_n_15 : (al_L_15.drop 1).isEmpty = true := by decide +kernel
theorem ck_L_c_16 : ∀ i, i < 1 → (al_L_16.drop i).head?.all (fun alt => rf_run nm_cl nm_ct en_xs 8 xx_L kc_L cu_L po_L (some .boolean) 1 0 98 16364 (some mu_L_16) 5000 true 450 alt) = true
  | 0, _ => ck_L_b_16_0
  | i + 1, h => absurd h (by omega)
theorem ck_L_n_16 : (al_L_16.drop 1).isEmpty = true := by decide +kernel
theorem ck_L_c_17 : ∀ i, i < 1 → (al_L_17.drop i).head?.all (fun alt => rf_run nm_cl nm_ct en_xs 8 xx_L kc_L cu_L po_L (some .boolean) 1 0 98 16364 (some mu_L_17) 5000 true 468 alt) = true
  | 0, _ => ck_L_b_17_0
  | i + 1, h => absurd h (by omega)
theorem ck_L_n_17 : (al_L_17.drop 1).isEmpty = true := by decide +kernel
theorem ck_L_c_18 : ∀ i, i < 1 → (al_L_18.drop i).head?.all (fun alt => rf_run nm_cl nm_ct en_xs 8 xx_L kc_L cu_L po_L (some .boolean) 1 0 98 16364 (some mu_L_18) 5000 true 488 alt) = true
  | 0, _ => ck_L_b_18_0
  | i + 1, h => absurd h (by omega)
theorem ck_L_n_18 : (al_L_18.drop 1).isEmpty = true := by decide +kernel
theorem ck_L_c_19 : ∀ i, i < 1 → (al_L_19.drop i).head?.all (fun alt => rf_run nm_cl nm_ct en_xs 8 xx_L kc_L cu_L po_L (some .boolean) 1 0 98 16364 (some mu_L_19) 5000 true 511 alt) = true
  | 0, _ => ck_L_b_19_0
  | i + 1, h => absurd h (by omega)
theorem ck_L_n_19 : (al_L_19.drop 1).isEmpty = true := by decide +kernel
theorem ck_L_c_20 : ∀ i, i < 1 → (al_L_20.drop i).head?.all (fun alt => rf_run nm_cl nm_ct en_xs 8 xx_L kc_L cu_L po_L (some .boolean) 1 0 98 16364 (some mu_L_20) 5000 true 521 alt) = true
  | 0, _ => ck_L_b_20_0
  | i + 1, h => absurd h (by omega)
theorem ck_L_n_20 : (al_L_20.drop 1).isEmpty = true := by decide +kernel
theorem ck_L_c_21 : ∀ i, i < 1 → (al_L_21.drop i).head?.all (fun alt => rf_run nm_cl nm_ct en_xs 8 xx_L kc_L cu_L po_L (some .boolean) 1 0 98 16364 (some mu_L_21) 5000 true 534 alt) = true
  | 0, _ => ck_L_b_21_0
  | i + 1, h => absurd h (by omega)
theorem ck_L_n_21 : (al_L_21.drop 1).isEmpty = true := by decide +kernel
theorem ck_L_c_22 : ∀ i, i < 1 → (al_L_22.drop i).head?.all (fun alt => rf_run nm_cl nm_ct en_xs 8 xx_L kc_L cu_L po_L (some .boolean) 1 0 98 16364 (some mu_L_22) 5000 true 549 alt) = true
  | 0, _ => ck_L_b_22_0
  | i + 1, h => absurd h (by omega)
theorem ck_L_n_22 : (al_L_22.drop 1).isEmpty = true := by decide +kernel
theorem ck_L_c_23 : ∀ i, i < 1 → (al_L_23.drop i).head?.all (fun alt => rf_run nm_cl nm_ct en_xs 8 xx_L kc_L cu_L po_L (some .boolean) 1 0 98 16364 (some mu_L_23) 5000 true 567 alt) = true
  | 0, _ => ck_L_b_23_0
  | i + 1, h => absurd h (by omega)
theorem ck_L_n_23 : (al_L_23.drop 1).isEmpty = true := by decide +kernel
theorem ck_L_c_24 : ∀ i, i < 1 → (al_L_24.drop i).head?.all (fun alt => rf_run nm_cl nm_ct en_xs 8 xx_L kc_L cu_L po_L (some .boolean) 1 0 98 16364 (some mu_L_24) 5000 true 587 alt) = true
  | 0, _ => ck_L_b_24_0
  | i + 1, h => absurd h (by omega)
theorem ck_L_n_24 : (al_L_24.drop 1).isEmpty = true := by decide +kernel
theorem ck_L_c_25 : ∀ i, i < 1 → (al_L_25.drop i).head?.all (fun alt => rf_run nm_cl nm_ct en_xs 8 xx_L kc_L cu_L po_L (some .boolean) 1 0 98 16364 (some mu_L_25) 5000 true 610 alt) = true
  | 0, _ => ck_L_b_25_0
  | i + 1, h => absurd h (by omega)
theorem ck_L_n_25 : (al_L_25.drop 1).isEmpty = true := by decide +kernel
theorem ck_L_c_26 : ∀ i, i < 1 → (al_L_26.drop i).head?.all (fun alt => rf_run nm_cl nm_ct en_xs 8 xx_L kc_L cu_L po_L (some .boolean) 1 0 98 16364 (some mu_L_26) 5000 true 625 alt) = true
  | 0, _ => ck_L_b_26_0
  | i + 1, h => absurd h (by omega)
theorem ck_L_n_26 : (al_L_26.drop 1).isEmpty = true := by decide +kernel
theorem ck_L_c_27 : ∀ i, i < 1 → (al_L_27.drop i).head?.all (fun alt => rf_run nm_cl nm_ct en_xs 8 xx_L kc_L cu_L po_L (some .boolean) 1 0 98 16364 (some mu_L_27) 5000 true 643 alt) = true
  | 0, _ => ck_L_b_27_0
  | i + 1, h => absurd h (by omega)
theorem ck_L_n_27 : (al_L_27.drop 1).isEmpty = true := by decide +kernel
theorem ck_L_c_28 : ∀ i, i < 1 → (al_L_28.drop i).head?.all (fun alt => rf_run nm_cl nm_ct en_xs 8 xx_L kc_L cu_L po_L (some .boolean) 1 0 98 16364 (some mu_L_28) 5000 true 658 alt) = true
  | 0, _ => ck_L_b_28_0
  | i + 1, h => absurd h (by omega)
theorem ck_L_n_28 : (al_L_28.drop 1).isEmpty = true := by decide +kernel
theorem ck_L_c_29 : ∀ i, i < 1 → (al_L_29.drop i).head?.all (fun alt => rf_run nm_cl nm_ct en_xs 8 xx_L kc_L cu_L po_L (some .boolean) 1 0 98 16364 (some mu_L_29) 5000 true 676 alt) = true
  | 0, _ => ck_L_b_29_0
  | i + 1, h => absurd h (by omega)
theorem ck_L_n_29 : (al_L_29.drop 1).isEmpty = true := by decide +kernel
theorem ck_L_c_30 : ∀ i, i < 1 → (al_L_30.drop i).head?.all (fun alt => rf_run nm_cl nm_ct en_xs 8 xx_L kc_L cu_L po_L (some .boolean) 1 0 98 16364 (some mu_L_30) 5000 true 691 alt) = true
  | 0, _ => ck_L_b_30_0
  | i + 1, h => absurd h (by omega)
theorem ck_L_n_30 : (al_L_30.drop 1).isEmpty = true := by decide +kernel
theorem ck_L_c_31 : ∀ i, i < 1 → (al_L_31.drop i).head?.all (fun alt => rf_run nm_cl nm_ct en_xs 8 xx_L kc_L cu_L po_L (some .boolean) 1 0 98 16364 (some mu_L_31) 5000 true 709 alt) = true
  | 0, _ => ck_L_b_31_0
  | i + 1, h => absurd h (by omega)
theorem ck_L_n_31 : (al_L_31.drop 1).isEmpty = true := by decide +kernel
theorem ck_L_c_32 : ∀ i, i < 1 → (al_L_32.drop i).head?.all (fun alt => rf_run nm_cl nm_ct en_xs 8 xx_L kc_L cu_L po_L (some .boolean) 1 0 98 16364 (some mu_L_32) 5000 true 724 alt) = true
  | 0, _ => ck_L_b_32_0
  | i + 1, h => absurd h (by omega)
theorem ck_L_n_32 : (al_L_32.drop 1).isEmpty = true := by decide +kernel
theorem ck_L_c_33 : ∀ i, i < 1 → (al_L_33.drop i).head?.all (fun alt => rf_run nm_cl nm_ct en_xs 8 xx_L kc_L cu_L po_L (some .boolean) 1 0 98 16364 (some mu_L_33) 5000 true 742 alt) = true
  | 0, _ => ck_L_b_33_0
  | i + 1, h => absurd h (by omega)
theorem ck_L_n_33 : (al_L_33.drop 1).isEmpty = true := by decide +kernel
theorem ck_L_c_34 : ∀ i, i < 1 → (al_L_34.drop i).head?.all (fun alt => rf_run nm_cl nm_ct en_xs 8 xx_L kc_L cu_L po_L (some .boolean) 1 0 98 16364 (some mu_L_34) 5000 true 762 alt) = true
  | 0, _ => ck_L_b_34_0
  | i + 1, h => absurd h (by omega)
theorem ck_L_n_34 : (al_L_34.drop 1).isEmpty = true := by decide +kernel
theorem ck_L_c_35 : ∀ i, i < 1 → (al_L_35.drop i).head?.all (fun alt => rf_run nm_cl nm_ct en_xs 8 xx_L kc_L cu_L po_L (some .boolean) 1 0 98 16364 (some mu_L_35) 5000 true 785 alt) = true
  | 0, _ => ck_L_b_35_0
  | i + 1, h => absurd h (by omega)
theorem ck_L_n_35 : (al_L_35.drop 1).isEmpty = true := by decide +kernel
theorem ck_L_c_36 : ∀ i, i < 1 → (al_L_36.drop i).head?.all (fun alt => rf_run nm_cl nm_ct en_xs 8 xx_L kc_L cu_L po_L (some .boolean) 1 0 98 16364 (some mu_L_36) 5000 true 800 alt) = true
  | 0, _ => ck_L_b_36_0
  | i + 1, h => absurd h (by omega)
theorem ck_L_n_36 : (al_L_36.drop 1).isEmpty = true := by decide +kernel
theorem ck_L_c_37 : ∀ i, i < 1 → (al_L_37.drop i).head?.all (fun alt => rf_run nm_cl nm_ct en_xs 8 xx_L kc_L cu_L po_L (some .boolean) 1 0 98 16364 (some mu_L_37) 5000 true 818 alt) = true
  | 0, _ => ck_L_b_37_0
  | i + 1, h => absurd h (by omega)
theorem ck_L_n_37 : (al_L_37.drop 1).isEmpty = true := by decide +kernel
theorem ck_L_c_38 : ∀ i, i < 1 → (al_L_38.drop i).head?.all (fun alt => rf_run nm_cl nm_ct en_xs 8 xx_L kc_L cu_L po_L (some .boolean) 1 0 98 16364 (some mu_L_38) 5000 true 833 alt) = true
  | 0, _ => ck_L_b_38_0
  | i + 1, h => absurd h (by omega)
theorem ck_L_n_38 : (al_L_38.drop 1).isEmpty = true := by decide +kernel
theorem ck_L_c_39 : ∀ i, i < 1 → (al_L_39.drop i).head?.all (fun alt => rf_run nm_cl nm_ct en_xs 8 xx_L kc_L cu_L po_L (some .boolean) 1 0 98 16364 (some mu_L_39) 5000 true 851 alt) = true
  | 0, _ => ck_L_b_39_0
  | i + 1, h => absurd h (by omega)
theorem ck_L_n_39 : (al_L_39.drop 1).isEmpty = true := by decide +kernel
theorem ck_L_c_40 : ∀ i, i < 1 → (al_L_40.drop i).head?.all (fun alt => rf_run nm_cl nm_ct en_xs 8 xx_L kc_L cu_L po_L (some .boolean) 1 0 98 16364 (some mu_L_40) 5000 true 871 alt) = true
  | 0, _ => ck_L_b_40_0
  | i + 1, h => absurd h (by omega)
theorem ck_L_n_40 : (al_L_40.drop 1).isEmpty = true := by decide +kernel
theorem ck_L_c_41 : ∀ i, i < 1 → (al_L_41.drop i).head?.all (fun alt => rf_run nm_cl nm_ct en_xs 8 xx_L kc_L cu_L po_L (some .boolean) 1 0 98 16364 (some mu_L_41) 5000 true 894 alt) = true
  | 0, _ => ck_L_b_41_0
  | i + 1, h => absurd h (by omega)
theorem ck_L_n_41 : (al_L_41.drop 1).isEmpty = true := by decide +kernel
theorem ck_L_c_42 : ∀ i, i < 1 → (al_L_42.drop i).head?.all (fun alt => rf_run nm_cl nm_ct en_xs 8 xx_L kc_L cu_L po_L (some .boolean) 1 0 98 16364 (some mu_L_42) 5000 true 914 alt) = true
  | 0, _ => ck_L_b_42_0
  | i + 1, h => absurd h (by omega)
theorem ck_L_n_42 : (al_L_42.drop 1).isEmpty = true := by decide +kernel
theorem ck_L_c_43 : ∀ i, i < 1 → (al_L_43.drop i).head?.all (fun alt => rf_run nm_cl nm_ct en_xs 8 xx_L kc_L cu_L po_L (some .boolean) 1 0 98 16364 (some mu_L_43) 5000 true 937 alt) = true
  | 0, _ => ck_L_b_43_0
  | i + 1, h => absurd h (by omega)
theorem ck_L_n_43 : (al_L_43.drop 1).isEmpty = true := by decide +kernel
theorem ck_L_c_44 : ∀ i, i < 1 → (al_L_44.drop i).head?.all (fun alt => rf_run nm_cl nm_ct en_xs 8 xx_L kc_L cu_L po_L (some .boolean) 1 0 98 16364 (some mu_L_44) 5000 true 947 alt) = true
  | 0, _ => ck_L_b_44_0
  | i + 1, h => absurd h (by omega)
theorem ck_L_n_44 : (al_L_44.drop 1).isEmpty = true := by decide +kernel
theorem ck_L_c_45 : ∀ i, i < 1 → (al_L_45.drop i).head?.all (fun alt => rf_run nm_cl nm_ct en_xs 8 xx_L kc_L cu_L po_L (some .boolean) 1 0 98 16364 (some mu_L_45) 5000 true 960 alt) = true
  | 0, _ => ck_L_b_45_0
  | i + 1, h => absurd h (by omega)
theorem ck_L_n_45 : (al_L_45.drop 1).isEmpty = true := by decide +kernel
theorem ck_L_c_46 : ∀ i, i < 1 → (al_L_46.drop i).head?.all (fun alt => rf_run nm_cl nm_ct en_xs 8 xx_L kc_L cu_L po_L (some .boolean) 1 0 98 16364 (some mu_L_46) 5000 true 975 alt) = true
  | 0, _ => ck_L_b_46_0
  | i + 1, h => absurd h (by omega)
theorem ck_L_n_46 : (al_L_46.drop 1).isEmpty = true := by decide +kernel
theorem ck_L_c_47 : ∀ i, i < 1 → (al_L_47.drop i).head?.all (fun alt => rf_run nm_cl nm_ct en_xs 8 xx_L kc_L cu_L po_L (some .boolean) 1 0 98 16364 (some mu_L_47) 5000 true 993 alt) = true
  | 0, _ => ck_L_b_47_0
  | i + 1, h => absurd h (by omega)
theorem ck_L_n_47 : (al_L_47.drop 1).isEmpty = true := by decide +kernel
theorem ck_L_c_48 : ∀ i, i < 1 → (al_L_48.drop i).head?.all (fun alt => rf_run nm_cl nm_ct en_xs 8 xx_L kc_L cu_L po_L (some .boolean) 1 0 98 16364 (some mu_L_48) 5000 true 1003 alt) = true
  | 0, _ => ck_L_b_48_0
  | i + 1, h => absurd h (by omega)
theorem ck_L_n_48 : (al_L_48.drop 1).isEmpty = true := by decide +kernel
theorem ck_L_c_49 : ∀ i, i < 1 → (al_L_49.drop i).head?.all (fun alt => rf_run nm_cl nm_ct en_xs 8 xx_L kc_L cu_L po_L (some .boolean) 1 0 98 16364 (some mu_L_49) 5000 true 1016 alt) = true
  | 0, _ => ck_L_b_49_0
  | i + 1, h => absurd h (by omega)
theorem ck_L_n_49 : (al_L_49.drop 1).isEmpty = true := by decide +kernel
theorem ck_L_c_50 : ∀ i, i < 1 → (al_L_50.drop i).head?.all (fun alt => rf_run nm_cl nm_ct en_xs 8 xx_L kc_L cu_L po_L (some .boolean) 1 0 98 16364 (some mu_L_50) 5000 true 1026 alt) = true
  | 0, _ => ck_L_b_50_0
  | i + 1, h => absurd h (by omega)
theorem ck_L_n_50 : (al_L_50.drop 1).isEmpty = true := by decide +kernel
theorem ck_L_c_51 : ∀ i, i < 1 → (al_L_51.drop i).head?.all (fun alt => rf_run nm_cl nm_ct en_xs 8 xx_L kc_L cu_L po_L (some .boolean) 1 0 98 16364 (some mu_L_51) 5000 true 1039 alt) = true
  | 0, _ => ck_L_b_51_0
  | i + 1, h => absurd h (by omega)
theorem ck_L_n_51 : (al_L_51.drop 1).isEmpty = true := by decide +kernel
theorem ck_L_c_52 : ∀ i, i < 1 → (al_L_52.drop i).head?.all (fun alt => rf_run nm_cl nm_ct en_xs 8 xx_L kc_L cu_L po_L (some .boolean) 1 0 98 16364 (some mu_L_52) 5000 true 1044 alt) = true
  | 0, _ => ck_L_b_52_0
  | i + 1, h => absurd h (by omega)
theorem ck_L_n_52 : (al_L_52.drop 1).isEmpty = true := by decide +kernel
theorem ck_L_c_53 : ∀ i, i < 1 → (al_L_53.drop i).head?.all (fun alt => rf_run nm_cl nm_ct en_xs 8 xx_L kc_L cu_L po_L (some .boolean) 1 0 98 16364 (some mu_L_53) 5000 true 1052 alt) = true
  | 0, _ => ck_L_b_53_0
  | i + 1, h => absurd h (by omega)
theorem ck_L_n_53 : (al_L_53.drop 1).isEmpty = true := by decide +kernel
theorem ck_L_c_54 : ∀ i, i < 1 → (al_L_54.drop i).head?.all (fun alt => rf_run nm_cl nm_ct en_xs 8 xx_L kc_L cu_L po_L (some .boolean) 1 0 98 16364 (some mu_L_54) 5000 true 1057 alt) = true
  | 0, _ => ck_L_b_54_0
  | i + 1, h => absurd h (by omega)
theorem ck_L_n_54 : (al_L_54.drop 1).isEmpty = true := by decide +kernel
theorem ck_L_c_55 : ∀ i, i < 1 → (al_L_55.drop i).head?.all (fun alt => rf_run nm_cl nm_ct en_xs 8 xx_L kc_L cu_L po_L (some .boolean) 1 0 98 16364 (some mu_L_55) 5000 true 1065 alt) = true
  | 0, _ => ck_L_b_55_0
  | i + 1, h => absurd h (by omega)
theorem ck_L_n_55 : (al_L_55.drop 1).isEmpty = true := by decide +kernel
theorem ck_L_c_56 : ∀ i, i < 1 → (al_L_56.drop i).head?.all (fun alt => rf_run nm_cl nm_ct en_xs 8 xx_L kc_L cu_L po_L (some .boolean) 1 0 98 16364 (some mu_L_56) 5000 true 1070 alt) = true
  | 0, _ => ck_L_b_56_0
  | i + 1, h => absurd h (by omega)
theorem ck_L_n_56 : (al_L_56.drop 1).isEmpty = true := by decide +kernel
theorem ck_L_c_57 : ∀ i, i < 1 → (al_L_57.drop i).head?.all (fun alt => rf_run nm_cl nm_ct en_xs 8 xx_L kc_L cu_L po_L (some .boolean) 1 0 98 16364 (some mu_L_57) 5000 true 1078 alt) = true
  | 0, _ => ck_L_b_57_0
  | i + 1, h => absurd h (by omega)
theorem ck_L_n_57 : (al_L_57.drop 1).isEmpty = true := by decide +kernel
theorem ck_L_c_58 : ∀ i, i < 1 → (al_L_58.drop i).head?.all (fun alt => rf_run nm_cl nm_ct en_xs 8 xx_L kc_L cu_L po_L (some .boolean) 1 0 98 16364 (some mu_L_58) 5000 true 1083 alt) = true
  | 0, _ => ck_L_b_58_0
  | i + 1, h => absurd h (by omega)
theorem ck_L_n_58 : (al_L_58.drop 1).isEmpty = true := by decide +kernel
theorem ck_L_c_59 : ∀ i, i < 1 → (al_L_59.drop i).head?.all (fun alt => rf_run nm_cl nm_ct en_xs 8 xx_L kc_L cu_L po_L (some .boolean) 1 0 98 16364 (some mu_L_59) 5000 true 1091 alt) = true
  | 0, _ => ck_L_b_59_0
  | i + 1, h => absurd h (by omega)
theorem ck_L_n_59 : (al_L_59.drop 1).isEmpty = true := by decide +kernel
theorem ck_L_c_60 : ∀ i, i < 1 → (al_L_60.drop i).head?.all (fun alt => rf_run nm_cl nm_ct en_xs 8 xx_L kc_L cu_L po_L (some .boolean) 1 0 98 16364 (some mu_L_60) 5000 true 1101 alt) = true
  | 0, _ => ck_L_b_60_0
  | i + 1, h => absurd h (by omega)
theorem ck_L_n_60 : (al_L_60.drop 1).isEmpty = true := by decide +kernel
theorem ck_L_c_61 : ∀ i, i < 1 → (al_L_61.drop i).head?.all (fun alt => rf_run nm_cl nm_ct en_xs 8 xx_L kc_L cu_L po_L (some .boolean) 1 0 98 16364 (some mu_L_61) 5000 true 1114 alt) = true
  | 0, _ => ck_L_b_61_0
  | i + 1, h => absurd h (by omega)
theorem ck_L_n_61 : (al_L_61.drop 1).isEmpty = true := by decide +kernel
theorem ck_L_c_62 : ∀ i, i < 1 → (al_L_62.drop i).head?.all (fun alt => rf_run nm_cl nm_ct en_xs 8 xx_L kc_L cu_L po_L (some .boolean) 1 0 98 16364 (some mu_L_62) 5000 true 1134 alt) = true
  | 0, _ => ck_L_b_62_0
  | i + 1, h => absurd h (by omega)
theorem ck_L_n_62 : (al_L_62.drop 1).isEmpty = true := by decide +kernel
theorem ck_L_c_63 : ∀ i, i < 1 → (al_L_63.drop i).head?.all (fun alt => rf_run nm_cl nm_ct en_xs 8 xx_L kc_L cu_L po_L (some .boolean) 1 0 98 16364 (some mu_L_63) 5000 true 1157 alt) = true
  | 0, _ => ck_L_b_63_0
  | i + 1, h => absurd h (by omega)
theorem ck_L_n_63 : (al_L_63.drop 1).isEmpty = true := by decide +kernel
theorem ck_L_c_64 : ∀ i, i < 1 → (al_L_64.drop i).head?.all (fun alt => rf_run nm_cl nm_ct en_xs 8 xx_L kc_L cu_L po_L (some .boolean) 1 0 98 16364 (some mu_L_64) 5000 true 1167 alt) = true
  | 0, _ => ck_L_b_64_0
  | i + 1, h => absurd h (by omega)
theorem ck_L_n_64 : (al_L_64.drop 1).isEmpty = true := by decide +kernel
theorem ck_L_c_65 : ∀ i, i < 1 → (al_L_65.drop i).head?.all (fun alt => rf_run nm_cl nm_ct en_xs 8 xx_L kc_L cu_L po_L (some .boolean) 1 0 98 16364 (some mu_L_65) 5000 true 1180 alt) = true
  | 0, _ => ck_L_b_65_0
  | i + 1, h => absurd h (by omega)
theorem ck_L_n_65 : (al_L_65.drop 1).isEmpty = true := by decide +kernel
theorem ck_L_c_66 : ∀ i, i < 1 → (al_L_66.drop i).head?.all (fun alt => rf_run nm_cl nm_ct en_xs 8 xx_L kc_L cu_L po_L (some .boolean) 1 0 98 16364 (some mu_L_66) 5000 true 1195 alt) = true
  | 0, _ => ck_L_b_66_0
  | i + 1, h => absurd h (by omega)
theorem ck_L_n_66 : (al_L_66.drop 1).isEmpty = true := by decide +kernel
theorem ck_L_c_67 : ∀ i, i < 1 → (al_L_67.drop i).head?.all (fun alt => rf_run nm_cl nm_ct en_xs 8 xx_L kc_L cu_L po_L (some .boolean) 1 0 98 16364 (some mu_L_67) 5000 true 1213 alt) = true
  | 0, _ => ck_L_b_67_0
  | i + 1, h => absurd h (by omega)
theorem ck_L_n_67 : (al_L_67.drop 1).isEmpty = true := by decide +kernel
theorem ck_L_c_68 : ∀ i, i < 1 → (al_L_68.drop i).head?.all (fun alt => rf_run nm_cl nm_ct en_xs 8 xx_L kc_L cu_L po_L (some .boolean) 1 0 98 16364 (some mu_L_68) 5000 true 1256 alt) = true
  | 0, _ => ck_L_b_68_0
  | i + 1, h => absurd h (by omega)
theorem ck_L_n_68 : (al_L_68.drop 1).isEmpty = true := by decide +kernel
theorem ck_L_c_69 : ∀ i, i < 1 → (al_L_69.drop i).head?.all (fun alt => rf_run nm_cl nm_ct en_xs 8 xx_L kc_L cu_L po_L (some .boolean) 1 0 98 16364 (some mu_L_69) 5000 true 1291 alt) = true
  | 0, _ => ck_L_b_69_0
  | i + 1, h => absurd h (by omega)
theorem ck_L_n_69 : (al_L_69.drop 1).isEmpty = true := by decide +kernel
theorem ck_L_c_70 : ∀ i, i < 1 → (al_L_70.drop i).head?.all (fun alt => rf_run nm_cl nm_ct en_xs 8 xx_L kc_L cu_L po_L (some .boolean) 1 0 98 16364 (some mu_L_70) 5000 true 1329 alt) = true
  | 0, _ => ck_L_b_70_0
  | i + 1, h => absurd h (by omega)
theorem ck_L_n_70 : (al_L_70.drop 1).isEmpty = true := by decide +kernel
theorem ck_L_c_71 : ∀ i, i < 1 → (al_L_71.drop i).head?.all (fun alt => rf_run nm_cl nm_ct en_xs 8 xx_L kc_L cu_L po_L (some .boolean) 1 0 98 16364 (some mu_L_71) 5000 true 1344 alt) = true
  | 0, _ => ck_L_b_71_0
  | i + 1, h => absurd h (by omega)
theorem ck_L_n_71 : (al_L_71.drop 1).isEmpty = true := by decide +kernel
theorem ck_L_c_72 : ∀ i, i < 1 → (al_L_72.drop i).head?.all (fun alt => rf_run nm_cl nm_ct en_xs 8 xx_L kc_L cu_L po_L (some .boolean) 1 0 98 16364 (some mu_L_72) 5000 true 1362 alt) = true
  | 0, _ => ck_L_b_72_0
  | i + 1, h => absurd h (by omega)
theorem ck_L_n_72 : (al_L_72.drop 1).isEmpty = true := by decide +kernel
theorem ck_L_c_73 : ∀ i, i < 1 → (al_L_73.drop i).head?.all (fun alt => rf_run nm_cl nm_ct en_xs 8 xx_L kc_L cu_L po_L (some .boolean) 1 0 98 16364 (some mu_L_73) 5000 true 1392 alt) = true
  | 0, _ => ck_L_b_73_0
  | i + 1, h => absurd h (by omega)
theorem ck_L_n_73 : (al_L_73.drop 1).isEmpty = true := by decide +kernel
theorem ck_L_c_74 : ∀ i, i < 1 → (al_L_74.drop i).head?.all (fun alt => rf_run nm_cl nm_ct en_xs 8 xx_L kc_L cu_L po_L (some .boolean) 1 0 98 16364 (some mu_L_74) 5000 true 1425 alt) = true
  | 0, _ => ck_L_b_74_0
  | i + 1, h => absurd h (by omega)
theorem ck_L_n_74 : (al_L_74.drop 1).isEmpty = true := by decide +kernel
theorem ck_L_c_75 : ∀ i, i < 1 → (al_L_75.drop i).head?.all (fun alt => rf_run nm_cl nm_ct en_xs 8 xx_L kc_L cu_L po_L (some .boolean) 1 0 98 16364 (some mu_L_75) 5000 true 1440 alt) = true
  | 0, _ => ck_L_b_75_0
  | i + 1, h => absurd h (by omega)
theorem ck_L_n_75 : (al_L_75.drop 1).isEmpty = true := by decide +kernel
theorem ck_L_c_76 : ∀ i, i < 1 → (al_L_76.drop i).head?.all (fun alt => rf_run nm_cl nm_ct en_xs 8 xx_L kc_L cu_L po_L (some .boolean) 1 0 98 16364 (some mu_L_76) 5000 true 1458 alt) = true
  | 0, _ => ck_L_b_76_0
  | i + 1, h => absurd h (by omega)
theorem ck_L_n_76 : (al_L_76.drop 1).isEmpty = true := by decide +kernel
theorem ck_L_c_77 : ∀ i, i < 1 → (al_L_77.drop i).head?.all (fun alt => rf_run nm_cl nm_ct en_xs 8 xx_L kc_L cu_L po_L (some .boolean) 1 0 98 16364 (some mu_L_77) 5000 true 1468 alt) = true
  | 0, _ => ck_L_b_77_0
  | i + 1, h => absurd h (by omega)
theorem ck_L_n_77 : (al_L_77.drop 1).isEmpty = true := by decide +kernel
theorem ck_L_d_0 : ∀ alt ∈ cq_L_0.2.2.2, rf_run nm_cl nm_ct en_xs 8 xx_L kc_L cu_L po_L (some .boolean) 1 0 98 16364 (some cq_L_0.2.2.1) 5000 true cq_L_0.1 alt = true := by
  have e1 : cq_L_0.2.2.2 = al_L_0 := rfl
  have e2 : cq_L_0.2.2.1 = mu_L_0 := rfl
  have e3 : cq_L_0.1 = 18 := rfl
  rw [e1, e2, e3]
  exact rf_pcs (l := al_L_0) 1 ck_L_c_0 (List.isEmpty_iff.mp ck_L_n_0)
theorem ck_L_d_1 : ∀ alt ∈ cq_L_1.2.2.2, rf_run nm_cl nm_ct en_xs 8 xx_L kc_L cu_L po_L (some .boolean) 1 0 98 16364 (some cq_L_1.2.2.1) 5000 true cq_L_1.1 alt = true := by
  have e1 : cq_L_1.2.2.2 = al_L_1 := rfl
  have e2 : cq_L_1.2.2.1 = mu_L_1 := rfl
  have e3 : cq_L_1.1 = 33 := rfl
  rw [e1, e2, e3]
  exact rf_pcs (l := al_L_1) 6 ck_L_c_1 (List.isEmpty_iff.mp ck_L_n_1)
theorem ck_L_d_2 : ∀ alt ∈ cq_L_2.2.2.2, rf_run nm_cl nm_ct en_xs 8 xx_L kc_L cu_L po_L (some .boolean) 1 0 98 16364 (some cq_L_2.2.2.1) 5000 true cq_L_2.1 alt = true := by
  have e1 : cq_L_2.2.2.2 = al_L_2 := rfl
  have e2 : cq_L_2.2.2.1 = mu_L_2 := rfl
  have e3 : cq_L_2.1 = 204 := rfl
  rw [e1, e2, e3]
  exact rf_pcs (l := al_L_2) 1 ck_L_c_2 (List.isEmpty_iff.mp ck_L_n_2)
theorem ck_L_d_3 : ∀ alt ∈ cq_L_3.2.2.2, rf_run nm_cl nm_ct en_xs 8 xx_L kc_L cu_L po_L (some .boolean) 1 0 98 16364 (some cq_L_3.2.2.1) 5000 true cq_L_3.1 alt = true := by
  have e1 : cq_L_3.2.2.2 = al_L_3 := rfl
  have e2 : cq_L_3.2.2.1 = mu_L_3 := rfl
  have e3 : cq_L_3.1 = 219 := rfl
  rw [e1, e2, e3]
  exact rf_pcs (l := al_L_3) 1 ck_L_c_3 (List.isEmpty_iff.mp ck_L_n_3)
theorem ck_L_d_4 : ∀ alt ∈ cq_L_4.2.2.2, rf_run nm_cl nm_ct en_xs 8 xx_L kc_L cu_L po_L (some .boolean) 1 0 98 16364 (some cq_L_4.2.2.1) 5000 true cq_L_4.1 alt = true := by
  have e1 : cq_L_4.2.2.2 = al_L_4 := rfl
  have e2 : cq_L_4.2.2.1 = mu_L_4 := rfl
  have e3 : cq_L_4.1 = 237 := rfl
  rw [e1, e2, e3]
  exact rf_pcs (l := al_L_4) 1 ck_L_c_4 (List.isEmpty_iff.mp ck_L_n_4)
theorem ck_L_d_5 : ∀ alt ∈ cq_L_5.2.2.2, rf_run nm_cl nm_ct en_xs 8 xx_L kc_L cu_L po_L (some .boolean) 1 0 98 16364 (some cq_L_5.2.2.1) 5000 true cq_L_5.1 alt = true := by
  have e1 : cq_L_5.2.2.2 = al_L_5 := rfl
  have e2 : cq_L_5.2.2.1 = mu_L_5 := rfl
  have e3 : cq_L_5.1 = 257 := rfl
  rw [e1, e2, e3]
  exact rf_pcs (l := al_L_5) 1 ck_L_c_5 (List.isEmpty_iff.mp ck_L_n_5)
theorem ck_L_d_6 : ∀ alt ∈ cq_L_6.2.2.2, rf_run nm_cl nm_ct en_xs 8 xx_L kc_L cu_L po_L (some .boolean) 1 0 98 16364 (some cq_L_6.2.2.1) 5000 true cq_L_6.1 alt = true := by
  have e1 : cq_L_6.2.2.2 = al_L_6 := rfl
  have e2 : cq_L_6.2.2.1 = mu_L_6 := rfl
  have e3 : cq_L_6.1 = 280 := rfl
  rw [e1, e2, e3]
  exact rf_pcs (l := al_L_6) 1 ck_L_c_6 (List.isEmpty_iff.mp ck_L_n_6)
theorem ck_L_d_7 : ∀ alt ∈ cq_L_7.2.2.2, rf_run nm_cl nm_ct en_xs 8 xx_L kc_L cu_L po_L (some .boolean) 1 0 98 16364 (some cq_L_7.2.2.1) 5000 true cq_L_7.1 alt = true := by
  have e1 : cq_L_7.2.2.2 = al_L_7 := rfl
  have e2 : cq_L_7.2.2.1 = mu_L_7 := rfl
  have e3 : cq_L_7.1 = 300 := rfl
  rw [e1, e2, e3]
  exact rf_pcs (l := al_L_7) 1 ck_L_c_7 (List.isEmpty_iff.mp ck_L_n_7)
theorem ck_L_d_8 : ∀ alt ∈ cq_L_8.2.2.2, rf_run nm_cl nm_ct en_xs 8 xx_L kc_L cu_L po_L (some .boolean) 1 0 98 16364 (some cq_L_8.2.2.1) 5000 true cq_L_8.1 alt = true := by
  have e1 : cq_L_8.2.2.2 = al_L_8 := rfl
  have e2 : cq_L_8.2.2.1 = mu_L_8 := rfl
  have e3 : cq_L_8.1 = 323 := rfl
  rw [e1, e2, e3]
  exact rf_pcs (l := al_L_8) 1 ck_L_c_8 (List.isEmpty_iff.mp ck_L_n_8)
theorem ck_L_d_9 : ∀ alt ∈ cq_L_9.2.2.2, rf_run nm_cl nm_ct en_xs 8 xx_L kc_L cu_L po_L (some .boolean) 1 0 98 16364 (some cq_L_9.2.2.1) 5000 true cq_L_9.1 alt = true := by
  have e1 : cq_L_9.2.2.2 = al_L_9 := rfl
  have e2 : cq_L_9.2.2.1 = mu_L_9 := rfl
  have e3 : cq_L_9.1 = 338 := rfl
  rw [e1, e2, e3]
  exact rf_pcs (l := al_L_9) 1 ck_L_c_9 (List.isEmpty_iff.mp ck_L_n_9)
theorem ck_L_d_10 : ∀ alt ∈ cq_L_10.2.2.2, rf_run nm_cl nm_ct en_xs 8 xx_L kc_L cu_L po_L (some .boolean) 1 0 98 16364 (some cq_L_10.2.2.1) 5000 true cq_L_10.1 alt = true := by
  have e1 : cq_L_10.2.2.2 = al_L_10 := rfl
  have e2 : cq_L_10.2.2.1 = mu_L_10 := rfl
  have e3 : cq_L_10.1 = 356 := rfl
  rw [e1, e2, e3]
  exact rf_pcs (l := al_L_10) 1 ck_L_c_10 (List.isEmpty_iff.mp ck_L_n_10)
theorem ck_L_d_11 : ∀ alt ∈ cq_L_11.2.2.2, rf_run nm_cl nm_ct en_xs 8 xx_L kc_L cu_L po_L (some .boolean) 1 0 98 16364 (some cq_L_11.2.2.1) 5000 true cq_L_11.1 alt = true := by
  have e1 : cq_L_11.2.2.2 = al_L_11 := rfl
  have e2 : cq_L_11.2.2.1 = mu_L_11 := rfl
  have e3 : cq_L_11.1 = 366 := rfl
  rw [e1, e2, e3]
  exact rf_pcs (l := al_L_11) 1 ck_L_c_11 (List.isEmpty_iff.mp ck_L_n_11)
theorem ck_L_d_12 : ∀ alt ∈ cq_L_12.2.2.2, rf_run nm_cl nm_ct en_xs 8 xx_L kc_L cu_L po_L (some .boolean) 1 0 98 16364 (some cq_L_12.2.2.1) 5000 true cq_L_12.1 alt = true := by
  have e1 : cq_L_12.2.2.2 = al_L_12 := rfl
  have e2 : cq_L_12.2.2.1 = mu_L_12 := rfl
  have e3 : cq_L_12.1 = 379 := rfl
  rw [e1, e2, e3]
  exact rf_pcs (l := al_L_12) 1 ck_L_c_12 (List.isEmpty_iff.mp ck_L_n_12)
theorem ck_L_d_13 : ∀ alt ∈ cq_L_13.2.2.2, rf_run nm_cl nm_ct en_xs 8 xx_L kc_L cu_L po_L (some .boolean) 1 0 98 16364 (some cq_L_13.2.2.1) 5000 true cq_L_13.1 alt = true := by
  have e1 : cq_L_13.2.2.2 = al_L_13 := rfl
  have e2 : cq_L_13.2.2.1 = mu_L_13 := rfl
  have e3 : cq_L_13.1 = 392 := rfl
  rw [e1, e2, e3]
  exact rf_pcs (l := al_L_13) 1 ck_L_c_13 (List.isEmpty_iff.mp ck_L_n_13)
theorem ck_L_d_14 : ∀ alt ∈ cq_L_14.2.2.2, rf_run nm_cl nm_ct en_xs 8 xx_L kc_L cu_L po_L (some .boolean) 1 0 98 16364 (some cq_L_14.2.2.1) 5000 true cq_L_14.1 alt = true := by
  have e1 : cq_L_14.2.2.2 = al_L_14 := rfl
  have e2 : cq_L_14.2.2.1 = mu_L_14 := rfl
  have e3 : cq_L_14.1 = 412 := rfl
  rw [e1, e2, e3]
  exact rf_pcs (l := al_L_14) 1 ck_L_c_14 (List.isEmpty_iff.mp ck_L_n_14)
theorem ck_L_d_15 : ∀ alt ∈ cq_L_15.2.2.2, rf_run nm_cl nm_ct en_xs 8 xx_L kc_L cu_L po_L (some .boolean) 1 0 98 16364 (some cq_L_15.2.2.1) 5000 true cq_L_15.1 alt = true := by
  have e1 : cq_L_15.2.2.2 = al_L_15 := rfl
  have e2 : cq_L_15.2.2.1 = mu_L_15 := rfl
  have e3 : cq_L_15.1 = 435 := rfl
  rw [e1, e2, e3]
  exact rf_pcs (l := al_L_15) 1 ck_L_c_15 (List.isEmpty_iff.mp ck_L_n_15)
theorem ck_L_d_16 : ∀ alt ∈ cq_L_16.2.2.2, rf_run nm_cl nm_ct en_xs 8 xx_L kc_L cu_L po_L (some .boolean) 1 0 98 16364 (some cq_L_16.2.2.1) 5000 true cq_L_16.1 alt = true := by
  have e1 : cq_L_16.2.2.2 = al_L_16 := rfl
  have e2 : cq_L_16.2.2.1 = mu_L_16 := rfl
  have e3 : cq_L_16.1 = 450 := rfl
  rw [e1, e2, e3]
  exact rf_pcs (l := al_L_16) 1 ck_L_c_16 (List.isEmpty_iff.mp ck_L_n_16)
theorem ck_L_d_17 : ∀ alt ∈ cq_L_17.2.2.2, rf_run nm_cl nm_ct en_xs 8 xx_L kc_L cu_L po_L (some .boolean) 1 0 98 16364 (some cq_L_17.2.2.1) 5000 true cq_L_17.1 alt = true := by
  have e1 : cq_L_17.2.2.2 = al_L_17 := rfl
  have e2 : cq_L_17.2.2.1 = mu_L_17 := rfl
  have e3 : cq_L_17.1 = 468 := rfl
  rw [e1, e2, e3]
  exact rf_pcs (l := al_L_17) 1 ck_L_c_17 (List.isEmpty_iff.mp ck_L_n_17)
theorem ck_L_d_18 : ∀ alt ∈ cq_L_18.2.2.2, rf_run nm_cl nm_ct en_xs 8 xx_L kc_L cu_L po_L (some .boolean) 1 0 98 16364 (some cq_L_18.2.2.1) 5000 true cq_L_18.1 alt = true := by
  have e1 : cq_L_18.2.2.2 = al_L_18 := rfl
  have e2 : cq_L_18.2.2.1 = mu_L_18 := rfl
  have e3 : cq_L_18.1 = 488 := rfl
  rw [e1, e2, e3]
  exact rf_pcs (l := al_L_18) 1 ck_L_c_18 (List.isEmpty_iff.mp ck_L_n_18)
theorem ck_L_d_19 : ∀ alt ∈ cq_L_19.2.2.2, rf_run nm_cl nm_ct en_xs 8 xx_L kc_L cu_L po_L (some .boolean) 1 0 98 16364 (some cq_L_19.2.2.1) 5000 true cq_L_19.1 alt = true := by
  have e1 : cq_L_19.2.2.2 = al_L_19 := rfl
  have e2 : cq_L_19.2.2.1 = mu_L_19 := rfl
  have e3 : cq_L_19.1 = 511 := rfl
  rw [e1, e2, e3]
  exact rf_pcs (l := al_L_19) 1 ck_L_c_19 (List.isEmpty_iff.mp ck_L_n_19)
theorem ck_L_d_20 : ∀ alt ∈ cq_L_20.2.2.2, rf_run nm_cl nm_ct en_xs 8 xx_L kc_L cu_L po_L (some .boolean) 1 0 98 16364 (some cq_L_20.2.2.1) 5000 true cq_L_20.1 alt = true := by
  have e1 : cq_L_20.2.2.2 = al_L_20 := rfl
  have e2 : cq_L_20.2.2.1 = mu_L_20 := rfl
  have e3 : cq_L_20.1 = 521 := rfl
  rw [e1, e2, e3]
  exact rf_pcs (l := al_L_20) 1 ck_L_c_20 (List.isEmpty_iff.mp ck_L_n_20)
theorem ck_L_d_21 : ∀ alt ∈ cq_L_21.2.2.2, rf_run nm_cl nm_ct en_xs 8 xx_L kc_L cu_L po_L (some .boolean) 1 0 98 16364 (some cq_L_21.2.2.1) 5000 true cq_L_21.1 alt = true := by
  have e1 : cq_L_21.2.2.2 = al_L_21 := rfl
  have e2 : cq_L_21.2.2.1 = mu_L_21 := rfl
  have e3 : cq_L_21.1 = 534 := rfl
  rw [e1, e2, e3]
  exact rf_pcs (l := al_L_21) 1 ck_L_c_21 (List.isEmpty_iff.mp ck_L_n_21)
theorem ck_L_d_22 : ∀ alt ∈ cq_L_22.2.2.2, rf_run nm_cl nm_ct en_xs 8 xx_L kc_L cu_L po_L (some .boolean) 1 0 98 16364 (some cq_L_22.2.2.1) 5000 true cq_L_22.1 alt = true := by
  have e1 : cq_L_22.2.2.2 = al_L_22 := rfl
  have e2 : cq_L_22.2.2.1 = mu_L_22 := rfl
  have e3 : cq_L_22.1 = 549 := rfl
  rw [e1, e2, e3]
  exact rf_pcs (l := al_L_22) 1 ck_L_c_22 (List.isEmpty_iff.mp ck_L_n_22)
theorem ck_L_d_23 : ∀ alt ∈ cq_L_23.2.2.2, rf_run nm_cl nm_ct en_xs 8 xx_L kc_L cu_L po_L (some .boolean) 1 0 98 16364 (some cq_L_23.2.2.1) 5000 true cq_L_23.1 alt = true := by
  have e1 : cq_L_23.2.2.2 = al_L_23 := rfl
  have e2 : cq_L_23.2.2.1 = mu_L_23 := rfl
  have e3 : cq_L_23.1 = 567 := rfl
  rw [e1, e2, e3]
  exact rf_pcs (l := al_L_23) 1 ck_L_c_23 (List.isEmpty_iff.mp ck_L_n_23)
theorem ck_L_d_24 : ∀ alt ∈ cq_L_24.2.2.2, rf_run nm_cl nm_ct en_xs 8 xx_L kc_L cu_L po_L (some .boolean) 1 0 98 16364 (some cq_L_24.2.2.1) 5000 true cq_L_24.1 alt = true := by
  have e1 : cq_L_24.2.2.2 = al_L_24 := rfl
  have e2 : cq_L_24.2.2.1 = mu_L_24 := rfl
  have e3 : cq_L_24.1 = 587 := rfl
  rw [e1, e2, e3]
  exact rf_pcs (l := al_L_24) 1 ck_L_c_24 (List.isEmpty_iff.mp ck_L_n_24)
theorem ck_L_d_25 : ∀ alt ∈ cq_L_25.2.2.2, rf_run nm_cl nm_ct en_xs 8 xx_L kc_L cu_L po_L (some .boolean) 1 0 98 16364 (some cq_L_25.2.2.1) 5000 true cq_L_25.1 alt = true := by
  have e1 : cq_L_25.2.2.2 = al_L_25 := rfl
  have e2 : cq_L_25.2.2.1 = mu_L_25 := rfl
  have e3 : cq_L_25.1 = 610 := rfl
  rw [e1, e2, e3]
  exact rf_pcs (l := al_L_25) 1 ck_L_c_25 (List.isEmpty_iff.mp ck_L_n_25)
theorem ck_L_d_26 : ∀ alt ∈ cq_L_26.2.2.2, rf_run nm_cl nm_ct en_xs 8 xx_L kc_L cu_L po_L (some .boolean) 1 0 98 16364 (some cq_L_26.2.2.1) 5000 true cq_L_26.1 alt = true := by
  have e1 : cq_L_26.2.2.2 = al_L_26 := rfl
  have e2 : cq_L_26.2.2.1 = mu_L_26 := rfl
  have e3 : cq_L_26.1 = 625 := rfl
  rw [e1, e2, e3]
  exact rf_pcs (l := al_L_26) 1 ck_L_c_26 (List.isEmpty_iff.mp ck_L_n_26)
theorem ck_L_d_27 : ∀ alt ∈ cq_L_27.2.2.2, rf_run nm_cl nm_ct en_xs 8 xx_L kc_L cu_L po_L (some .boolean) 1 0 98 16364 (some cq_L_27.2.2.1) 5000 true cq_L_27.1 alt = true := by
  have e1 : cq_L_27.2.2.2 = al_L_27 := rfl
  have e2 : cq_L_27.2.2.1 = mu_L_27 := rfl
  have e3 : cq_L_27.1 = 643 := rfl
  rw [e1, e2, e3]
  exact rf_pcs (l := al_L_27) 1 ck_L_c_27 (List.isEmpty_iff.mp ck_L_n_27)
theorem ck_L_d_28 : ∀ alt ∈ cq_L_28.2.2.2, rf_run nm_cl nm_ct en_xs 8 xx_L kc_L cu_L po_L (some .boolean) 1 0 98 16364 (some cq_L_28.2.2.1) 5000 true cq_L_28.1 alt = true := by
  have e1 : cq_L_28.2.2.2 = al_L_28 := rfl
  have e2 : cq_L_28.2.2.1 = mu_L_28 := rfl
  have e3 : cq_L_28.1 = 658 := rfl
  rw [e1, e2, e3]
  exact rf_pcs (l := al_L_28) 1 ck_L_c_28 (List.isEmpty_iff.mp ck_L_n_28)
theorem ck_L_d_29 : ∀ alt ∈ cq_L_29.2.2.2, rf_run nm_cl nm_ct en_xs 8 xx_L kc_L cu_L po_L (some .boolean) 1 0 98 16364 (some cq_L_29.2.2.1) 5000 true cq_L_29.1 alt = true := by
  have e1 : cq_L_29.2.2.2 = al_L_29 := rfl
  have e2 : cq_L_29.2.2.1 = mu_L_29 := rfl
  have e3 : cq_L_29.1 = 676 := rfl
  rw [e1, e2, e3]
  exact rf_pcs (l := al_L_29) 1 ck_L_c_29 (List.isEmpty_iff.mp ck_L_n_29)
theorem ck_L_d_30 : ∀ alt ∈ cq_L_30.2.2.2, rf_run nm_cl nm_ct en_xs 8 xx_L kc_L cu_L po_L (some .boolean) 1 0 98 16364 (some cq_L_30.2.2.1) 5000 true cq_L_30.1 alt = true := by
  have e1 : cq_L_30.2.2.2 = al_L_30 := rfl
  have e2 : cq_L_30.2.2.1 = mu_L_30 := rfl
  have e3 : cq_L_30.1 = 691 := rfl
  rw [e1, e2, e3]
  exact rf_pcs (l := al_L_30) 1 ck_L_c_30 (List.isEmpty_iff.mp ck_L_n_30)
theorem ck_L_d_31 : ∀ alt ∈ cq_L_31.2.2.2, rf_run nm_cl nm_ct en_xs 8 xx_L kc_L cu_L po_L (some .boolean) 1 0 98 16364 (some cq_L_31.2.2.1) 5000 true cq_L_31.1 alt = true := by
  have e1 : cq_L_31.2.2.2 = al_L_31 := rfl
  have e2 : cq_L_31.2.2.1 = mu_L_31 := rfl
  have e3 : cq_L_31.1 = 709 := rfl
  rw [e1, e2, e3]
  exact rf_pcs (l := al_L_31) 1 ck_L_c_31 (List.isEmpty_iff.mp ck_L_n_31)
theorem ck_L_d_32 : ∀ alt ∈ cq_L_32.2.2.2, rf_run nm_cl nm_ct en_xs 8 xx_L kc_L cu_L po_L (some .boolean) 1 0 98 16364 (some cq_L_32.2.2.1) 5000 true cq_L_32.1 alt = true := by
  have e1 : cq_L_32.2.2.2 = al_L_32 := rfl
  have e2 : cq_L_32.2.2.1 = mu_L_32 := rfl
  have e3 : cq_L_32.1 = 724 := rfl
  rw [e1, e2, e3]
  exact rf_pcs (l := al_L_32) 1 ck_L_c_32 (List.isEmpty_iff.mp ck_L_n_32)
theorem ck_L_d_33 : ∀ alt ∈ cq_L_33.2.2.2, rf_run nm_cl nm_ct en_xs 8 xx_L kc_L cu_L po_L (some .boolean) 1 0 98 16364 (some cq_L_33.2.2.1) 5000 true cq_L_33.1 alt = true := by
  have e1 : cq_L_33.2.2.2 = al_L_33 := rfl
  have e2 : cq_L_33.2.2.1 = mu_L_33 := rfl
  have e3 : cq_L_33.1 = 742 := rfl
  rw [e1, e2, e3]
  exact rf_pcs (l := al_L_33) 1 ck_L_c_33 (List.isEmpty_iff.mp ck_L_n_33)
theorem ck_L_d_34 : ∀ alt ∈ cq_L_34.2.2.2, rf_run nm_cl nm_ct en_xs 8 xx_L kc_L cu_L po_L (some .boolean) 1 0 98 16364 (some cq_L_34.2.2.1) 5000 true cq_L_34.1 alt = true := by
  have e1 : cq_L_34.2.2.2 = al_L_34 := rfl
  have e2 : cq_L_34.2.2.1 = mu_L_34 := rfl
  have e3 : cq_L_34.1 = 762 := rfl
  rw [e1, e2, e3]
  exact rf_pcs (l := al_L_34) 1 ck_L_c_34 (List.isEmpty_iff.mp ck_L_n_34)
theorem ck_L_d_35 : ∀ alt ∈ cq_L_35.2.2.2, rf_run nm_cl nm_ct en_xs 8 xx_L kc_L cu_L po_L (some .boolean) 1 0 98 16364 (some cq_L_35.2.2.1) 5000 true cq_L_35.1 alt = true := by
  have e1 : cq_L_35.2.2.2 = al_L_35 := rfl
  have e2 : cq_L_35.2.2.1 = mu_L_35 := rfl
  have e3 : cq_L_35.1 = 785 := rfl
  rw [e1, e2, e3]
  exact rf_pcs (l := al_L_35) 1 ck_L_c_35 (List.isEmpty_iff.mp ck_L_n_35)
theorem ck_L_d_36 : ∀ alt ∈ cq_L_36.2.2.2, rf_run nm_cl nm_ct en_xs 8 xx_L kc_L cu_L po_L (some .boolean) 1 0 98 16364 (some cq_L_36.2.2.1) 5000 true cq_L_36.1 alt = true := by
  have e1 : cq_L_36.2.2.2 = al_L_36 := rfl
  have e2 : cq_L_36.2.2.1 = mu_L_36 := rfl
  have e3 : cq_L_36.1 = 800 := rfl
  rw [e1, e2, e3]
  exact rf_pcs (l := al_L_36) 1 ck_L_c_36 (List.isEmpty_iff.mp ck_L_n_36)
theorem ck_L_d_37 : ∀ alt ∈ cq_L_37.2.2.2, rf_run nm_cl nm_ct en_xs 8 xx_L kc_L cu_L po_L (some .boolean) 1 0 98 16364 (some cq_L_37.2.2.1) 5000 true cq_L_37.1 alt = true := by
  have e1 : cq_L_37.2.2.2 = al_L_37 := rfl
  have e2 : cq_L_37.2.2.1 = mu_L_37 := rfl
  have e3 : cq_L_37.1 = 818 := rfl
  rw [e1, e2, e3]
  exact rf_pcs (l := al_L_37) 1 ck_L_c_37 (List.isEmpty_iff.mp ck_L_n_37)
theorem ck_L_d_38 : ∀ alt ∈ cq_L_38.2.2.2, rf_run nm_cl nm_ct en_xs 8 xx_L kc_L cu_L po_L (some .boolean) 1 0 98 16364 (some cq_L_38.2.2.1) 5000 true cq_L_38.1 alt = true := by
  have e1 : cq_L_38.2.2.2 = al_L_38 := rfl
  have e2 : cq_L_38.2.2.1 = mu_L_38 := rfl
  have e3 : cq_L_38.1 = 833 := rfl
  rw [e1, e2, e3]
  exact rf_pcs (l := al_L_38) 1 ck_L_c_38 (List.isEmpty_iff.mp ck_L_n_38)
theorem ck_L_d_39 : ∀ alt ∈ cq_L_39.2.2.2, rf_run nm_cl nm_ct en_xs 8 xx_L kc_L cu_L po_L (some .boolean) 1 0 98 16364 (some cq_L_39.2.2.1) 5000 true cq_L_39.1 alt = true := by
  have e1 : cq_L_39.2.2.2 = al_L_39 := rfl
  have e2 : cq_L_39.2.2.1 = mu_L_39 := rfl
  have e3 : cq_L_39.1 = 851 := rfl
  rw [e1, e2, e3]
  exact rf_pcs (l := al_L_39) 1 ck_L_c_39 (List.isEmpty_iff.mp ck_L_n_39)
theorem ck_L_d_40 : ∀ alt ∈ cq_L_40.2.2.2, rf_run nm_cl nm_ct en_xs 8 xx_L kc_L cu_L po_L (some .boolean) 1 0 98 16364 (some cq_L_40.2.2.1) 5000 true cq_L_40.1 alt = true := by
  have e1 : cq_L_40.2.2.2 = al_L_40 := rfl
  have e2 : cq_L_40.2.2.1 = mu_L_40 := rfl
  have e3 : cq_L_40.1 = 871 := rfl
  rw [e1, e2, e3]
  exact rf_pcs (l := al_L_40) 1 ck_L_c_40 (List.isEmpty_iff.mp ck_L_n_40)
theorem ck_L_d_41 : ∀ alt ∈ cq_L_41.2.2.2, rf_run nm_cl nm_ct en_xs 8 xx_L kc_L cu_L po_L (some .boolean) 1 0 98 16364 (some cq_L_41.2.2.1) 5000 true cq_L_41.1 alt = true := by
  have e1 : cq_L_41.2.2.2 = al_L_41 := rfl
  have e2 : cq_L_41.2.2.1 = mu_L_41 := rfl
  have e3 : cq_L_41.1 = 894 := rfl
  rw [e1, e2, e3]
  exact rf_pcs (l := al_L_41) 1 ck_L_c_41 (List.isEmpty_iff.mp ck_L_n_41)
theorem ck_L_d_42 : ∀ alt ∈ cq_L_42.2.2.2, rf_run nm_cl nm_ct en_xs 8 xx_L kc_L cu_L po_L (some .boolean) 1 0 98 16364 (some cq_L_42.2.2.1) 5000 true cq_L_42.1 alt = true := by
  have e1 : cq_L_42.2.2.2 = al_L_42 := rfl
  have e2 : cq_L_42.2.2.1 = mu_L_42 := rfl
  have e3 : cq_L_42.1 = 914 := rfl
  rw [e1, e2, e3]
  exact rf_pcs (l := al_L_42) 1 ck_L_c_42 (List.isEmpty_iff.mp ck_L_n_42)
theorem ck_L_d_43 : ∀ alt ∈ cq_L_43.2.2.2, rf_run nm_cl nm_ct en_xs 8 xx_L kc_L cu_L po_L (some .boolean) 1 0 98 16364 (some cq_L_43.2.2.1) 5000 true cq_L_43.1 alt = true := by
  have e1 : cq_L_43.2.2.2 = al_L_43 := rfl
  have e2 : cq_L_43.2.2.1 = mu_L_43 := rfl
  have e3 : cq_L_43.1 = 937 := rfl
  rw [e1, e2, e3]
  exact rf_pcs (l := al_L_43) 1 ck_L_c_43 (List.isEmpty_iff.mp ck_L_n_43)
theorem ck_L_d_44 : ∀ alt ∈ cq_L_44.2.2.2, rf_run nm_cl nm_ct en_xs 8 xx_L kc_L cu_L po_L (some .boolean) 1 0 98 16364 (some cq_L_44.2.2.1) 5000 true cq_L_44.1 alt = true := by
  have e1 : cq_L_44.2.2.2 = al_L_44 := rfl
  have e2 : cq_L_44.2.2.1 = mu_L_44 := rfl
  have e3 : cq_L_44.1 = 947 := rfl
  rw [e1, e2, e3]
  exact rf_pcs (l := al_L_44) 1 ck_L_c_44 (List.isEmpty_iff.mp ck_L_n_44)
theorem ck_L_d_45 : ∀ alt ∈ cq_L_45.2.2.2, rf_run nm_cl nm_ct en_xs 8 xx_L kc_L cu_L po_L (some .boolean) 1 0 98 16364 (some cq_L_45.2.2.1) 5000 true cq_L_45.1 alt = true := by
  have e1 : cq_L_45.2.2.2 = al_L_45 := rfl
  have e2 : cq_L_45.2.2.1 = mu_L_45 := rfl
  have e3 : cq_L_45.1 = 960 := rfl
  rw [e1, e2, e3]
  exact rf_pcs (l := al_L_45) 1 ck_L_c_45 (List.isEmpty_iff.mp ck_L_n_45)
theorem ck_L_d_46 : ∀ alt ∈ cq_L_46.2.2.2, rf_run nm_cl nm_ct en_xs 8 xx_L kc_L cu_L po_L (some .boolean) 1 0 98 16364 (some cq_L_46.2.2.1) 5000 true cq_L_46.1 alt = true := by
  have e1 : cq_L_46.2.2.2 = al_L_46 := rfl
  have e2 : cq_L_46.2.2.1 = mu_L_46 := rfl
  have e3 : cq_L_46.1 = 975 := rfl
  rw [e1, e2, e3]
  exact rf_pcs (l := al_L_46) 1 ck_L_c_46 (List.isEmpty_iff.mp ck_L_n_46)
theorem ck_L_d_47 : ∀ alt ∈ cq_L_47.2.2.2, rf_run nm_cl nm_ct en_xs 8 xx_L kc_L cu_L po_L (some .boolean) 1 0 98 16364 (some cq_L_47.2.2.1) 5000 true cq_L_47.1 alt = true := by
  have e1 : cq_L_47.2.2.2 = al_L_47 := rfl
  have e2 : cq_L_47.2.2.1 = mu_L_47 := rfl
  have e3 : cq_L_47.1 = 993 := rfl
  rw [e1, e2, e3]
  exact rf_pcs (l := al_L_47) 1 ck_L_c_47 (List.isEmpty_iff.mp ck_L_n_47)
theorem ck_L_d_48 : ∀ alt ∈ cq_L_48.2.2.2, rf_run nm_cl nm_ct en_xs 8 xx_L kc_L cu_L po_L (some .boolean) 1 0 98 16364 (some cq_L_48.2.2.1) 5000 true cq_L_48.1 alt = true := by
  have e1 : cq_L_48.2.2.2 = al_L_48 := rfl
  have e2 : cq_L_48.2.2.1 = mu_L_48 := rfl
  have e3 : cq_L_48.1 = 1003 := rfl
  rw [e1, e2, e3]
  exact rf_pcs (l := al_L_48) 1 ck_L_c_48 (List.isEmpty_iff.mp ck_L_n_48)
theorem ck_L_d_49 : ∀ alt ∈ cq_L_49.2.2.2, rf_run nm_cl nm_ct en_xs 8 xx_L kc_L cu_L po_L (some .boolean) 1 0 98 16364 (some cq_L_49.2.2.1) 5000 true cq_L_49.1 alt = true := by
  have e1 : cq_L_49.2.2.2 = al_L_49 := rfl
  have e2 : cq_L_49.2.2.1 = mu_L_49 := rfl
  have e3 : cq_L_49.1 = 1016 := rfl
  rw [e1, e2, e3]
  exact rf_pcs (l := al_L_49) 1 ck_L_c_49 (List.isEmpty_iff.mp ck_L_n_49)
theorem ck_L_d_50 : ∀ alt ∈ cq_L_50.2.2.2, rf_run nm_cl nm_ct en_xs 8 xx_L kc_L cu_L po_L (some .boolean) 1 0 98 16364 (some cq_L_50.2.2.1) 5000 true cq_L_50.1 alt = true := by
  have e1 : cq_L_50.2.2.2 = al_L_50 := rfl
  have e2 : cq_L_50.2.2.1 = mu_L_50 := rfl
  have e3 : cq_L_50.1 = 1026 := rfl
  rw [e1, e2, e3]
  exact rf_pcs (l := al_L_50) 1 ck_L_c_50 (List.isEmpty_iff.mp ck_L_n_50)
theorem ck_L_d_51 : ∀ alt ∈ cq_L_51.2.2.2, rf_run nm_cl nm_ct en_xs 8 xx_L kc_L cu_L po_L (some .boolean) 1 0 98 16364 (some cq_L_51.2.2.1) 5000 true cq_L_51.1 alt = true := by
  have e1 : cq_L_51.2.2.2 = al_L_51 := rfl
  have e2 : cq_L_51.2.2.1 = mu_L_51 := rfl
  have e3 : cq_L_51.1 = 1039 := rfl
  rw [e1, e2, e3]
  exact rf_pcs (l := al_L_51) 1 ck_L_c_51 (List.isEmpty_iff.mp ck_L_n_51)
theorem ck_L_d_52 : ∀ alt ∈ cq_L_52.2.2.2, rf_run nm_cl nm_ct en_xs 8 xx_L kc_L cu_L po_L (some .boolean) 1 0 98 16364 (some cq_L_52.2.2.1) 5000 true cq_L_52.1 alt = true := by
  have e1 : cq_L_52.2.2.2 = al_L_52 := rfl
  have e2 : cq_L_52.2.2.1 = mu_L_52 := rfl
  have e3 : cq_L_52.1 = 1044 := rfl
  rw [e1, e2, e3]
  exact rf_pcs (l := al_L_52) 1 ck_L_c_52 (List.isEmpty_iff.mp ck_L_n_52)
theorem ck_L_d_53 : ∀ alt ∈ cq_L_53.2.2.2, rf_run nm_cl nm_ct en_xs 8 xx_L kc_L cu_L po_L (some .boolean) 1 0 98 16364 (some cq_L_53.2.2.1) 5000 true cq_L_53.1 alt = true := by
  have e1 : cq_L_53.2.2.2 = al_L_53 := rfl
  have e2 : cq_L_53.2.2.1 = mu_L_53 := rfl
  have e3 : cq_L_53.1 = 1052 := rfl
  rw [e1, e2, e3]
  exact rf_pcs (l := al_L_53) 1 ck_L_c_53 (List.isEmpty_iff.mp ck_L_n_53)
theorem ck_L_d_54 : ∀ alt ∈ cq_L_54.2.2.2, rf_run nm_cl nm_ct en_xs 8 xx_L kc_L cu_L po_L (some .boolean) 1 0 98 16364 (some cq_L_54.2.2.1) 5000 true cq_L_54.1 alt = true := by
  have e1 : cq_L_54.2.2.2 = al_L_54 := rfl
  have e2 : cq_L_54.2.2.1 = mu_L_54 := rfl
  have e3 : cq_L_54.1 = 1057 := rfl
  rw [e1, e2, e3]
  exact rf_pcs (l := al_L_54) 1 ck_L_c_54 (List.isEmpty_iff.mp ck_L_n_54)
theorem ck_L_d_55 : ∀ alt ∈ cq_L_55.2.2.2, rf_run nm_cl nm_ct en_xs 8 xx_L kc_L cu_L po_L (some .boolean) 1 0 98 16364 (some cq_L_55.2.2.1) 5000 true cq_L_55.1 alt = true := by
  have e1 : cq_L_55.2.2.2 = al_L_55 := rfl
  have e2 : cq_L_55.2.2.1 = mu_L_55 := rfl
  have e3 : cq_L_55.1 = 1065 := rfl
  rw [e1, e2, e3]
  exact rf_pcs (l := al_L_55) 1 ck_L_c_55 (List.isEmpty_iff.mp ck_L_n_55)
theorem ck_L_d_56 : ∀ alt ∈ cq_L_56.2.2.2, rf_run nm_cl nm_ct en_xs 8 xx_L kc_L cu_L po_L (some .boolean) 1 0 98 16364 (some cq_L_56.2.2.1) 5000 true cq_L_56.1 alt = true := by
  have e1 : cq_L_56.2.2.2 = al_L_56 := rfl
  have e2 : cq_L_56.2.2.1 = mu_L_56 := rfl
  have e3 : cq_L_56.1 = 1070 := rfl
  rw [e1, e2, e3]
  exact rf_pcs (l := al_L_56) 1 ck_L_c_56 (List.isEmpty_iff.mp ck_L_n_56)
theorem ck_L_d_57 : ∀ alt ∈ cq_L_57.2.2.2, rf_run nm_cl nm_ct en_xs 8 xx_L kc_L cu_L po_L (some .boolean) 1 0 98 16364 (some cq_L_57.2.2.1) 5000 true cq_L_57.1 alt = true := by
  have e1 : cq_L_57.2.2.2 = al_L_57 := rfl
  have e2 : cq_L_57.2.2.1 = mu_L_57 := rfl
  have e3 : cq_L_57.1 = 1078 := rfl
  rw [e1, e2, e3]
  exact rf_pcs (l := al_L_57) 1 ck_L_c_57 (List.isEmpty_iff.mp ck_L_n_57)
theorem ck_L_d_58 : ∀ alt ∈ cq_L_58.2.2.2, rf_run nm_cl nm_ct en_xs 8 xx_L kc_L cu_L po_L (some .boolean) 1 0 98 16364 (some cq_L_58.2.2.1) 5000 true cq_L_58.1 alt = true := by
  have e1 : cq_L_58.2.2.2 = al_L_58 := rfl
  have e2 : cq_L_58.2.2.1 = mu_L_58 := rfl
  have e3 : cq_L_58.1 = 1083 := rfl
  rw [e1, e2, e3]
  exact rf_pcs (l := al_L_58) 1 ck_L_c_58 (List.isEmpty_iff.mp ck_L_n_58)
theorem ck_L_d_59 : ∀ alt ∈ cq_L_59.2.2.2, rf_run nm_cl nm_ct en_xs 8 xx_L kc_L cu_L po_L (some .boolean) 1 0 98 16364 (some cq_L_59.2.2.1) 5000 true cq_L_59.1 alt = true := by
  have e1 : cq_L_59.2.2.2 = al_L_59 := rfl
  have e2 : cq_L_59.2.2.1 = mu_L_59 := rfl
  have e3 : cq_L_59.1 = 1091 := rfl
  rw [e1, e2, e3]
  exact rf_pcs (l := al_L_59) 1 ck_L_c_59 (List.isEmpty_iff.mp ck_L_n_59)
theorem ck_L_d_60 : ∀ alt ∈ cq_L_60.2.2.2, rf_run nm_cl nm_ct en_xs 8 xx_L kc_L cu_L po_L (some .boolean) 1 0 98 16364 (some cq_L_60.2.2.1) 5000 true cq_L_60.1 alt = true := by
  have e1 : cq_L_60.2.2.2 = al_L_60 := rfl
  have e2 : cq_L_60.2.2.1 = mu_L_60 := rfl
  have e3 : cq_L_60.1 = 1101 := rfl
  rw [e1, e2, e3]
  exact rf_pcs (l := al_L_60) 1 ck_L_c_60 (List.isEmpty_iff.mp ck_L_n_60)
theorem ck_L_d_61 : ∀ alt ∈ cq_L_61.2.2.2, rf_run nm_cl nm_ct en_xs 8 xx_L kc_L cu_L po_L (some .boolean) 1 0 98 16364 (some cq_L_61.2.2.1) 5000 true cq_L_61.1 alt = true := by
  have e1 : cq_L_61.2.2.2 = al_L_61 := rfl
  have e2 : cq_L_61.2.2.1 = mu_L_61 := rfl
  have e3 : cq_L_61.1 = 1114 := rfl
  rw [e1, e2, e3]
  exact rf_pcs (l := al_L_61) 1 ck_L_c_61 (List.isEmpty_iff.mp ck_L_n_61)
theorem ck_L_d_62 : ∀ alt ∈ cq_L_62.2.2.2, rf_run nm_cl nm_ct en_xs 8 xx_L kc_L cu_L po_L (some .boolean) 1 0 98 16364 (some cq_L_62.2.2.1) 5000 true cq_L_62.1 alt = true := by
  have e1 : cq_L_62.2.2.2 = al_L_62 := rfl
  have e2 : cq_L_62.2.2.1 = mu_L_62 := rfl
  have e3 : cq_L_62.1 = 1134 := rfl
  rw [e1, e2, e3]
  exact rf_pcs (l := al_L_62) 1 ck_L_c_62 (List.isEmpty_iff.mp ck_L_n_62)
theorem ck_L_d_63 : ∀ alt ∈ cq_L_63.2.2.2, rf_run nm_cl nm_ct en_xs 8 xx_L kc_L cu_L po_L (some .boolean) 1 0 98 16364 (some cq_L_63.2.2.1) 5000 true cq_L_63.1 alt = true := by
  have e1 : cq_L_63.2.2.2 = al_L_63 := rfl
  have e2 : cq_L_63.2.2.1 = mu_L_63 := rfl
  have e3 : cq_L_63.1 = 1157 := rfl
  rw [e1, e2, e3]
  exact rf_pcs (l := al_L_63) 1 ck_L_c_63 (List.isEmpty_iff.mp ck_L_n_63)
theorem ck_L_d_64 : ∀ alt ∈ cq_L_64.2.2.2, rf_run nm_cl nm_ct en_xs 8 xx_L kc_L cu_L po_L (some .boolean) 1 0 98 16364 (some cq_L_64.2.2.1) 5000 true cq_L_64.1 alt = true := by
  have e1 : cq_L_64.2.2.2 = al_L_64 := rfl
  have e2 : cq_L_64.2.2.1 = mu_L_64 := rfl
  have e3 : cq_L_64.1 = 1167 := rfl
  rw [e1, e2, e3]
  exact rf_pcs (l := al_L_64) 1 ck_L_c_64 (List.isEmpty_iff.mp ck_L_n_64)
theorem ck_L_d_65 : ∀ alt ∈ cq_L_65.2.2.2, rf_run nm_cl nm_ct en_xs 8 xx_L kc_L cu_L po_L (some .boolean) 1 0 98 16364 (some cq_L_65.2.2.1) 5000 true cq_L_65.1 alt = true := by
  have e1 : cq_L_65.2.2.2 = al_L_65 := rfl
  have e2 : cq_L_65.2.2.1 = mu_L_65 := rfl
  have e3 : cq_L_65.1 = 1180 := rfl
  rw [e1, e2, e3]
  exact rf_pcs (l := al_L_65) 1 ck_L_c_65 (List.isEmpty_iff.mp ck_L_n_65)
theorem ck_L_d_66 : ∀ alt ∈ cq_L_66.2.2.2, rf_run nm_cl nm_ct en_xs 8 xx_L kc_L cu_L po_L (some .boolean) 1 0 98 16364 (some cq_L_66.2.2.1) 5000 true cq_L_66.1 alt = true := by
  have e1 : cq_L_66.2.2.2 = al_L_66 := rfl
  have e2 : cq_L_66.2.2.1 = mu_L_66 := rfl
  have e3 : cq_L_66.1 = 1195 := rfl
  rw [e1, e2, e3]
  exact rf_pcs (l := al_L_66) 1 ck_L_c_66 (List.isEmpty_iff.mp ck_L_n_66)
theorem ck_L_d_67 : ∀ alt ∈ cq_L_67.2.2.2, rf_run nm_cl nm_ct en_xs 8 xx_L kc_L cu_L po_L (some .boolean) 1 0 98 16364 (some cq_L_67.2.2.1) 5000 true cq_L_67.1 alt = true := by
  have e1 : cq_L_67.2.2.2 = al_L_67 := rfl
  have e2 : cq_L_67.2.2.1 = mu_L_67 := rfl
  have e3 : cq_L_67.1 = 1213 := rfl
  rw [e1, e2, e3]
  exact rf_pcs (l := al_L_67) 1 ck_L_c_67 (List.isEmpty_iff.mp ck_L_n_67)
theorem ck_L_d_68 : ∀ alt ∈ cq_L_68.2.2.2, rf_run nm_cl nm_ct en_xs 8 xx_L kc_L cu_L po_L (some .boolean) 1 0 98 16364 (some cq_L_68.2.2.1) 5000 true cq_L_68.1 alt = true := by
  have e1 : cq_L_68.2.2.2 = al_L_68 := rfl
  have e2 : cq_L_68.2.2.1 = mu_L_68 := rfl
  have e3 : cq_L_68.1 = 1256 := rfl
  rw [e1, e2, e3]
  exact rf_pcs (l := al_L_68) 1 ck_L_c_68 (List.isEmpty_iff.mp ck_L_n_68)
theorem ck_L_d_69 : ∀ alt ∈ cq_L_69.2.2.2, rf_run nm_cl nm_ct en_xs 8 xx_L kc_L cu_L po_L (some .boolean) 1 0 98 16364 (some cq_L_69.2.2.1) 5000 true cq_L_69.1 alt = true := by
  have e1 : cq_L_69.2.2.2 = al_L_69 := rfl
  have e2 : cq_L_69.2.2.1 = mu_L_69 := rfl
  have e3 : cq_L_69.1 = 1291 := rfl
  rw [e1, e2, e3]
  exact rf_pcs (l := al_L_69) 1 ck_L_c_69 (List.isEmpty_iff.mp ck_L_n_69)
theorem ck_L_d_70 : ∀ alt ∈ cq_L_70.2.2.2, rf_run nm_cl nm_ct en_xs 8 xx_L kc_L cu_L po_L (some .boolean) 1 0 98 16364 (some cq_L_70.2.2.1) 5000 true cq_L_70.1 alt = true := by
  have e1 : cq_L_70.2.2.2 = al_L_70 := rfl
  have e2 : cq_L_70.2.2.1 = mu_L_70 := rfl
  have e3 : cq_L_70.1 = 1329 := rfl
  rw [e1, e2, e3]
  exact rf_pcs (l := al_L_70) 1 ck_L_c_70 (List.isEmpty_iff.mp ck_L_n_70)
theorem ck_L_d_71 : ∀ alt ∈ cq_L_71.2.2.2, rf_run nm_cl nm_ct en_xs 8 xx_L kc_L cu_L po_L (some .boolean) 1 0 98 16364 (some cq_L_71.2.2.1) 5000 true cq_L_71.1 alt = true := by
  have e1 : cq_L_71.2.2.2 = al_L_71 := rfl
  have e2 : cq_L_71.2.2.1 = mu_L_71 := rfl
  have e3 : cq_L_71.1 = 1344 := rfl
  rw [e1, e2, e3]
  exact rf_pcs (l := al_L_71) 1 ck_L_c_71 (List.isEmpty_iff.mp ck_L_n_71)
theorem ck_L_d_72 : ∀ alt ∈ cq_L_72.2.2.2, rf_run nm_cl nm_ct en_xs 8 xx_L kc_L cu_L po_L (some .boolean) 1 0 98 16364 (some cq_L_72.2.2.1) 5000 true cq_L_72.1 alt = true := by
  have e1 : cq_L_72.2.2.2 = al_L_72 := rfl
  have e2 : cq_L_72.2.2.1 = mu_L_72 := rfl
  have e3 : cq_L_72.1 = 1362 := rfl
  rw [e1, e2, e3]
  exact rf_pcs (l := al_L_72) 1 ck_L_c_72 (List.isEmpty_iff.mp ck_L_n_72)
theorem ck_L_d_73 : ∀ alt ∈ cq_L_73.2.2.2, rf_run nm_cl nm_ct en_xs 8 xx_L kc_L cu_L po_L (some .boolean) 1 0 98 16364 (some cq_L_73.2.2.1) 5000 true cq_L_73.1 alt = true := by
  have e1 : cq_L_73.2.2.2 = al_L_73 := rfl
  have e2 : cq_L_73.2.2.1 = mu_L_73 := rfl
  have e3 : cq_L_73.1 = 1392 := rfl
  rw [e1, e2, e3]
  exact rf_pcs (l := al_L_73) 1 ck_L_c_73 (List.isEmpty_iff.mp ck_L_n_73)
theorem ck_L_d_74 : ∀ alt ∈ cq_L_74.2.2.2, rf_run nm_cl nm_ct en_xs 8 xx_L kc_L cu_L po_L (some .boolean) 1 0 98 16364 (some cq_L_74.2.2.1) 5000 true cq_L_74.1 alt = true := by
  have e1 : cq_L_74.2.2.2 = al_L_74 := rfl
  have e2 : cq_L_74.2.2.1 = mu_L_74 := rfl
  have e3 : cq_L_74.1 = 1425 := rfl
  rw [e1, e2, e3]
  exact rf_pcs (l := al_L_74) 1 ck_L_c_74 (List.isEmpty_iff.mp ck_L_n_74)
theorem ck_L_d_75 : ∀ alt ∈ cq_L_75.2.2.2, rf_run nm_cl nm_ct en_xs 8 xx_L kc_L cu_L po_L (some .boolean) 1 0 98 16364 (some cq_L_75.2.2.1) 5000 true cq_L_75.1 alt = true := by
  have e1 : cq_L_75.2.2.2 = al_L_75 := rfl
  have e2 : cq_L_75.2.2.1 = mu_L_75 := rfl
  have e3 : cq_L_75.1 = 1440 := rfl
  rw [e1, e2, e3]
  exact rf_pcs (l := al_L_75) 1 ck_L_c_75 (List.isEmpty_iff.mp ck_L_n_75)
theorem ck_L_d_76 : ∀ alt ∈ cq_L_76.2.2.2, rf_run nm_cl nm_ct en_xs 8 xx_L kc_L cu_L po_L (some .boolean) 1 0 98 16364 (some cq_L_76.2.2.1) 5000 true cq_L_76.1 alt = true := by
  have e1 : cq_L_76.2.2.2 = al_L_76 := rfl
  have e2 : cq_L_76.2.2.1 = mu_L_76 := rfl
  have e3 : cq_L_76.1 = 1458 := rfl
  rw [e1, e2, e3]
  exact rf_pcs (l := al_L_76) 1 ck_L_c_76 (List.isEmpty_iff.mp ck_L_n_76)
theorem ck_L_d_77 : ∀ alt ∈ cq_L_77.2.2.2, rf_run nm_cl nm_ct en_xs 8 xx_L kc_L cu_L po_L (some .boolean) 1 0 98 16364 (some cq_L_77.2.2.1) 5000 true cq_L_77.1 alt = true := by
  have e1 : cq_L_77.2.2.2 = al_L_77 := rfl
  have e2 : cq_L_77.2.2.1 = mu_L_77 := rfl
  have e3 : cq_L_77.1 = 1468 := rfl
  rw [e1, e2, e3]
  exact rf_pcs (l := al_L_77) 1 ck_L_c_77 (List.isEmpty_iff.mp ck_L_n_77)
theorem ck_L_b : ∀ cu ∈ cu_L, Nat.beq cu.2.2.1.length 4 = true ∧ ∀ alt ∈ cu.2.2.2, rf_run nm_cl nm_ct en_xs 8 xx_L kc_L cu_L po_L (some .boolean) 1 0 98 16364 (some cu.2.2.1) 5000 true cu.1 alt = true := List.forall_mem_cons.mpr ⟨⟨rfl, ck_L_d_0⟩, List.forall_mem_cons.mpr ⟨⟨rfl, ck_L_d_1⟩, List.forall_mem_cons.mpr ⟨⟨rfl, ck_L_d_2⟩, List.forall_mem_cons.mpr ⟨⟨rfl, ck_L_d_3⟩, List.forall_mem_cons.mpr ⟨⟨rfl, ck_L_d_4⟩, List.forall_mem_cons.mpr ⟨⟨rfl, ck_L_d_5⟩, List.forall_mem_cons.mpr ⟨⟨rfl, ck_L_d_6⟩, List.forall_mem_cons.mpr ⟨⟨rfl, ck_L_d_7⟩, List.forall_mem_cons.mpr ⟨⟨rfl, ck_L_d_8⟩, List.forall_mem_cons.mpr ⟨⟨rfl, ck_L_d_9⟩, List.forall_mem_cons.mpr ⟨⟨rfl, ck_L_d_10⟩, List.forall_mem_cons.mpr ⟨⟨rfl, ck_L_d_11⟩, List.forall_mem_cons.mpr ⟨⟨rfl, ck_L_d_12⟩, List.forall_mem_cons.mpr ⟨⟨rfl, ck_L_d_13⟩, List.forall_mem_cons.mpr ⟨⟨rfl, ck_L_d_14⟩, List.forall_mem_cons.mpr ⟨⟨rfl, ck_L_d_15⟩, List.forall_mem_cons.mpr ⟨⟨rfl, ck_L_d_16⟩, List.forall_mem_cons.mpr ⟨⟨rfl, ck_L_d_17⟩, List.forall_mem_cons.mpr ⟨⟨rfl, ck_L_d_18⟩, List.forall_mem_cons.mpr ⟨⟨rfl, ck_L_d_19⟩, List.forall_mem_cons.mpr ⟨⟨rfl, ck_L_d_20⟩, List.forall_mem_cons.mpr ⟨⟨rfl, ck_L_d_21⟩, List.forall_mem_cons.mpr ⟨⟨rfl, ck_L_d_22⟩, List.forall_mem_cons.mpr ⟨⟨rfl, ck_L_d_23⟩, List.forall_mem_cons.mpr ⟨⟨rfl, ck_L_d_24⟩, List.forall_mem_cons.mpr ⟨⟨rfl, ck_L_d_25⟩, List.forall_mem_cons.mpr ⟨⟨rfl, ck_L_d_26⟩, List.forall_mem_cons.mpr ⟨⟨rfl, ck_L_d_27⟩, List.forall_mem_cons.mpr ⟨⟨rfl, ck_L_d_28⟩, List.forall_mem_cons.mpr ⟨⟨rfl, ck_L_d_29⟩, List.forall_mem_cons.mpr ⟨⟨rfl, ck_L_d_30⟩, List.forall_mem_cons.mpr ⟨⟨rfl, ck_L_d_31⟩, List.forall_mem_cons.mpr ⟨⟨rfl, ck_L_d_32⟩, List.forall_mem_cons.mpr ⟨⟨rfl, ck_L_d_33⟩, List.forall_mem_cons.mpr ⟨⟨rfl, ck_L_d_34⟩, List.forall_mem_cons.mpr ⟨⟨rfl, ck_L_d_35⟩, List.forall_mem_cons.mpr ⟨⟨rfl, ck_L_d_36⟩, List.forall_mem_cons.mpr ⟨⟨rfl, ck_L_d_37⟩, List.forall_mem_cons.mpr ⟨⟨rfl, ck_L_d_38⟩, List.forall_mem_cons.mpr ⟨⟨rfl, ck_L_d_39⟩, List.forall_mem_cons.mpr ⟨⟨rfl, ck_L_d_40⟩, List.forall_mem_cons.mpr ⟨⟨rfl, ck_L_d_41⟩, List.forall_mem_cons.mpr ⟨⟨rfl, ck_L_d_42⟩, List.forall_mem_cons.mpr ⟨⟨rfl, ck_L_d_43⟩, List.forall_mem_cons.mpr ⟨⟨rfl, ck_L_d_44⟩, List.forall_mem_cons.mpr ⟨⟨rfl, ck_L_d_45⟩, List.forall_mem_cons.mpr ⟨⟨rfl, ck_L_d_46⟩, List.forall_mem_cons.mpr ⟨⟨rfl, ck_L_d_47⟩, List.forall_mem_cons.mpr ⟨⟨rfl, ck_L_d_48⟩, List.forall_mem_cons.mpr ⟨⟨rfl, ck_L_d_49⟩, List.forall_mem_cons.mpr ⟨⟨rfl, ck_L_d_50⟩, List.forall_mem_cons.mpr ⟨⟨rfl, ck_L_d_51⟩, List.forall_mem_cons.mpr ⟨⟨rfl, ck_L_d_52⟩, List.forall_mem_cons.mpr ⟨⟨rfl, ck_L_d_53⟩, List.forall_mem_cons.mpr ⟨⟨rfl, ck_L_d_54⟩, List.forall_mem_cons.mpr ⟨⟨rfl, ck_L_d_55⟩, List.forall_mem_cons.mpr ⟨⟨rfl, ck_L_d_56⟩, List.forall_mem_cons.mpr ⟨⟨rfl, ck_L_d_57⟩, List.forall_mem_cons.mpr ⟨⟨rfl, ck_L_d_58⟩, List.forall_mem_cons.mpr ⟨⟨rfl, ck_L_d_59⟩, List.forall_mem_cons.mpr ⟨⟨rfl, ck_L_d_60⟩, List.forall_mem_cons.mpr ⟨⟨rfl, ck_L_d_61⟩, List.forall_mem_cons.mpr ⟨⟨rfl, ck_L_d_62⟩, List.forall_mem_cons.mpr ⟨⟨rfl, ck_L_d_63⟩, List.forall_mem_cons.mpr ⟨⟨rfl, ck_L_d_64⟩, List.forall_mem_cons.mpr ⟨⟨rfl, ck_L_d_65⟩, List.forall_mem_cons.mpr ⟨⟨rfl, ck_L_d_66⟩, List.forall_mem_cons.mpr ⟨⟨rfl, ck_L_d_67⟩, List.forall_mem_cons.mpr ⟨⟨rfl, ck_L_d_68⟩, List.forall_mem_cons.mpr ⟨⟨rfl, ck_L_d_69⟩, List.forall_mem_cons.mpr ⟨⟨rfl, ck_L_d_70⟩, List.forall_mem_cons.mpr ⟨⟨rfl, ck_L_d_71⟩, List.forall_mem_cons.mpr ⟨⟨rfl, ck_L_d_72⟩, List.forall_mem_cons.mpr ⟨⟨rfl, ck_L_d_73⟩, List.forall_mem_cons.mpr ⟨⟨rfl, ck_L_d_74⟩, List.forall_mem_cons.mpr ⟨⟨rfl, ck_L_d_75⟩, List.forall_mem_cons.mpr ⟨⟨rfl, ck_L_d_76⟩, List.forall_mem_cons.mpr ⟨⟨rfl, ck_L_d_77⟩, (fun _ h => absurd h List.not_mem_nil)⟩⟩⟩⟩⟩⟩⟩⟩⟩⟩⟩⟩⟩⟩⟩⟩⟩⟩⟩⟩⟩⟩⟩⟩⟩⟩⟩⟩⟩⟩⟩⟩⟩⟩⟩⟩⟩⟩⟩⟩⟩⟩⟩⟩⟩⟩⟩⟩⟩⟩⟩⟩⟩⟩⟩⟩⟩⟩⟩⟩⟩⟩⟩⟩⟩⟩⟩⟩⟩⟩⟩⟩⟩⟩⟩⟩⟩⟩
theorem ln_L : rf_lens kc_L = true := by decide +kernel

