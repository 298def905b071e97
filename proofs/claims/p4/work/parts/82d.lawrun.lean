/-! the law: its checks -/
theorem ck_L_b_41_0 : (al_L_41.drop 0).head?.all (fun alt => rf_run nm_cl nm_ct en_xs 8 xx_L kc_L cu_L po_L (some .boolean) 1 0 98 16364 (some mu_L_41) 5000 true 318 alt) = true := by decide +kernel
theorem ck_L_c_41 : ∀ i, i < 1 → (al_L_41.drop i).head?.all (fun alt => rf_run nm_cl nm_ct en_xs 8 xx_L kc_L cu_L po_L (some .boolean) 1 0 98 16364 (some mu_L_41) 5000 true 318 alt) = true
  | 0, _ => ck_L_b_41_0
  | i + 1, h => absurd h (by omega)
theorem ck_L_n_41 : (al_L_41.drop 1).isEmpty = true := by decide +kernel
theorem ck_L_c_42 : ∀ i, i < 0 → (al_L_42.drop i).head?.all (fun alt => rf_run nm_cl nm_ct en_xs 8 xx_L kc_L cu_L po_L (some .boolean) 1 0 98 16364 (some mu_L_42) 5000 true 318 alt) = true
  | i + 0, h => absurd h (by omega)
theorem ck_L_n_42 : (al_L_42.drop 0).isEmpty = true := by decide +kernel
theorem ck_L_c_43 : ∀ i, i < 0 → (al_L_43.drop i).head?.all (fun alt => rf_run nm_cl nm_ct en_xs 8 xx_L kc_L cu_L po_L (some .boolean) 1 0 98 16364 (some mu_L_43) 5000 true 318 alt) = true
  | i + 0, h => absurd h (by omega)
theorem ck_L_n_43 : (al_L_43.drop 0).isEmpty = true := by decide +kernel
theorem ck_L_c_44 : ∀ i, i < 0 → (al_L_44.drop i).head?.all (fun alt => rf_run nm_cl nm_ct en_xs 8 xx_L kc_L cu_L po_L (some .boolean) 1 0 98 16364 (some mu_L_44) 5000 true 318 alt) = true
  | i + 0, h => absurd h (by omega)
theorem ck_L_n_44 : (al_L_44.drop 0).isEmpty = true := by decide +kernel
theorem ck_L_c_45 : ∀ i, i < 0 → (al_L_45.drop i).head?.all (fun alt => rf_run nm_cl nm_ct en_xs 8 xx_L kc_L cu_L po_L (some .boolean) 1 0 98 16364 (some mu_L_45) 5000 true 318 alt) = true
  | i + 0, h => absurd h (by omega)
theorem ck_L_n_45 : (al_L_45.drop 0).isEmpty = true := by decide +kernel
theorem ck_L_c_46 : ∀ i, i < 0 → (al_L_46.drop i).head?.all (fun alt => rf_run nm_cl nm_ct en_xs 8 xx_L kc_L cu_L po_L (some .boolean) 1 0 98 16364 (some mu_L_46) 5000 true 318 alt) = true
  | i + 0, h => absurd h (by omega)
theorem ck_L_n_46 : (al_L_46.drop 0).isEmpty = true := by decide +kernel
theorem ck_L_c_47 : ∀ i, i < 0 → (al_L_47.drop i).head?.all (fun alt => rf_run nm_cl nm_ct en_xs 8 xx_L kc_L cu_L po_L (some .boolean) 1 0 98 16364 (some mu_L_47) 5000 true 318 alt) = true
  | i + 0, h => absurd h (by omega)
theorem ck_L_n_47 : (al_L_47.drop 0).isEmpty = true := by decide +kernel
theorem ck_L_c_48 : ∀ i, i < 0 → (al_L_48.drop i).head?.all (fun alt => rf_run nm_cl nm_ct en_xs 8 xx_L kc_L cu_L po_L (some .boolean) 1 0 98 16364 (some mu_L_48) 5000 true 318 alt) = true
  | i + 0, h => absurd h (by omega)
theorem ck_L_n_48 : (al_L_48.drop 0).isEmpty = true := by decide +kernel
theorem ck_L_c_49 : ∀ i, i < 0 → (al_L_49.drop i).head?.all (fun alt => rf_run nm_cl nm_ct en_xs 8 xx_L kc_L cu_L po_L (some .boolean) 1 0 98 16364 (some mu_L_49) 5000 true 318 alt) = true
  | i + 0, h => absurd h (by omega)
theorem ck_L_n_49 : (al_L_49.drop 0).isEmpty = true := by decide +kernel
theorem ck_L_b_50_0 : (al_L_50.drop 0).head?.all (fun alt => rf_run nm_cl nm_ct en_xs 8 xx_L kc_L cu_L po_L (some .boolean) 1 0 98 16364 (some mu_L_50) 5000 true 318 alt) = true := by decide +kernel
theorem ck_L_c_50 : ∀ i, i < 1 → (al_L_50.drop i).head?.all (fun alt => rf_run nm_cl nm_ct en_xs 8 xx_L kc_L cu_L po_L (some .boolean) 1 0 98 16364 (some mu_L_50) 5000 true 318 alt) = true
  | 0, _ => ck_L_b_50_0
  | i + 1, h => absurd h (by omega)
theorem ck_L_n_50 : (al_L_50.drop 1).isEmpty = true := by decide +kernel
theorem ck_L_c_51 : ∀ i, i < 0 → (al_L_51.drop i).head?.all (fun alt => rf_run nm_cl nm_ct en_xs 8 xx_L kc_L cu_L po_L (some .boolean) 1 0 98 16364 (some mu_L_51) 5000 true 318 alt) = true
  | i + 0, h => absurd h (by omega)
theorem ck_L_n_51 : (al_L_51.drop 0).isEmpty = true := by decide +kernel
theorem ck_L_c_52 : ∀ i, i < 0 → (al_L_52.drop i).head?.all (fun alt => rf_run nm_cl nm_ct en_xs 8 xx_L kc_L cu_L po_L (some .boolean) 1 0 98 16364 (some mu_L_52) 5000 true 318 alt) = true
  | i + 0, h => absurd h (by omega)
theorem ck_L_n_52 : (al_L_52.drop 0).isEmpty = true := by decide +kernel
theorem ck_L_c_53 : ∀ i, i < 0 → (al_L_53.drop i).head?.all (fun alt => rf_run nm_cl nm_ct en_xs 8 xx_L kc_L cu_L po_L (some .boolean) 1 0 98 16364 (some mu_L_53) 5000 true 318 alt) = true
  | i + 0, h => absurd h (by omega)
theorem ck_L_n_53 : (al_L_53.drop 0).isEmpty = true := by decide +kernel
theorem ck_L_c_54 : ∀ i, i < 0 → (al_L_54.drop i).head?.all (fun alt => rf_run nm_cl nm_ct en_xs 8 xx_L kc_L cu_L po_L (some .boolean) 1 0 98 16364 (some mu_L_54) 5000 true 318 alt) = true
  | i + 0, h => absurd h (by omega)
theorem ck_L_n_54 : (al_L_54.drop 0).isEmpty = true := by decide +kernel
theorem ck_L_c_55 : ∀ i, i < 0 → (al_L_55.drop i).head?.all (fun alt => rf_run nm_cl nm_ct en_xs 8 xx_L kc_L cu_L po_L (some .boolean) 1 0 98 16364 (some mu_L_55) 5000 true 318 alt) = true
  | i + 0, h => absurd h (by omega)
theorem ck_L_n_55 : (al_L_55.drop 0).isEmpty = true := by decide +kernel
theorem ck_L_c_56 : ∀ i, i < 0 → (al_L_56.drop i).head?.all (fun alt => rf_run nm_cl nm_ct en_xs 8 xx_L kc_L cu_L po_L (some .boolean) 1 0 98 16364 (some mu_L_56) 5000 true 318 alt) = true
  | i + 0, h => absurd h (by omega)
theorem ck_L_n_56 : (al_L_56.drop 0).isEmpty = true := by decide +kernel
theorem ck_L_c_57 : ∀ i, i < 0 → (al_L_57.drop i).head?.all (fun alt => rf_run nm_cl nm_ct en_xs 8 xx_L kc_L cu_L po_L (some .boolean) 1 0 98 16364 (some mu_L_57) 5000 true 318 alt) = true
  | i + 0, h => absurd h (by omega)
theorem ck_L_n_57 : (al_L_57.drop 0).isEmpty = true := by decide +kernel
theorem ck_L_c_58 : ∀ i, i < 0 → (al_L_58.drop i).head?.all (fun alt => rf_run nm_cl nm_ct en_xs 8 xx_L kc_L cu_L po_L (some .boolean) 1 0 98 16364 (some mu_L_58) 5000 true 318 alt) = true
  | i + 0, h => absurd h (by omega)
theorem ck_L_n_58 : (al_L_58.drop 0).isEmpty = true := by decide +kernel
theorem ck_L_c_59 : ∀ i, i < 0 → (al_L_59.drop i).head?.all (fun alt => rf_run nm_cl nm_ct en_xs 8 xx_L kc_L cu_L po_L (some .boolean) 1 0 98 16364 (some mu_L_59) 5000 true 318 alt) = true
  | i + 0, h => absurd h (by omega)
theorem ck_L_n_59 : (al_L_59.drop 0).isEmpty = true := by decide +kernel
theorem ck_L_c_60 : ∀ i, i < 0 → (al_L_60.drop i).head?.all (fun alt => rf_run nm_cl nm_ct en_xs 8 xx_L kc_L cu_L po_L (some .boolean) 1 0 98 16364 (some mu_L_60) 5000 true 318 alt) = true
  | i + 0, h => absurd h (by omega)
theorem ck_L_n_60 : (al_L_60.drop 0).isEmpty = true := by decide +kernel
theorem ck_L_b_61_0 : (al_L_61.drop 0).head?.all (fun alt => rf_run nm_cl nm_ct en_xs 8 xx_L kc_L cu_L po_L (some .boolean) 1 0 98 16364 (some mu_L_61) 5000 true 318 alt) = true := by decide +kernel
theorem ck_L_c_61 : ∀ i, i < 1 → (al_L_61.drop i).head?.all (fun alt => rf_run nm_cl nm_ct en_xs 8 xx_L kc_L cu_L po_L (some .boolean) 1 0 98 16364 (some mu_L_61) 5000 true 318 alt) = true
  | 0, _ => ck_L_b_61_0
  | i + 1, h => absurd h (by omega)
theorem ck_L_n_61 : (al_L_61.drop 1).isEmpty = true := by decide +kernel
theorem ck_L_b_62_0 : (al_L_62.drop 0).head?.all (fun alt => rf_run nm_cl nm_ct en_xs 8 xx_L kc_L cu_L po_L (some .boolean) 1 0 98 16364 (some mu_L_62) 5000 true 318 alt) = true := by decide +kernel
theorem ck_L_c_62 : ∀ i, i < 1 → (al_L_62.drop i).head?.all (fun alt => rf_run nm_cl nm_ct en_xs 8 xx_L kc_L cu_L po_L (some .boolean) 1 0 98 16364 (some mu_L_62) 5000 true 318 alt) = true
  | 0, _ => ck_L_b_62_0
  | i + 1, h => absurd h (by omega)
theorem ck_L_n_62 : (al_L_62.drop 1).isEmpty = true := by decide +kernel
theorem ck_L_b_63_0 : (al_L_63.drop 0).head?.all (fun alt => rf_run nm_cl nm_ct en_xs 8 xx_L kc_L cu_L po_L (some .boolean) 1 0 98 16364 (some mu_L_63) 5000 true 323 alt) = true := by decide +kernel
theorem ck_L_c_63 : ∀ i, i < 1 → (al_L_63.drop i).head?.all (fun alt => rf_run nm_cl nm_ct en_xs 8 xx_L kc_L cu_L po_L (some .boolean) 1 0 98 16364 (some mu_L_63) 5000 true 323 alt) = true
  | 0, _ => ck_L_b_63_0
  | i + 1, h => absurd h (by omega)
theorem ck_L_n_63 : (al_L_63.drop 1).isEmpty = true := by decide +kernel
theorem ck_L_b_64_0 : (al_L_64.drop 0).head?.all (fun alt => rf_run nm_cl nm_ct en_xs 8 xx_L kc_L cu_L po_L (some .boolean) 1 0 98 16364 (some mu_L_64) 5000 true 356 alt) = true := by decide +kernel
theorem ck_L_c_64 : ∀ i, i < 1 → (al_L_64.drop i).head?.all (fun alt => rf_run nm_cl nm_ct en_xs 8 xx_L kc_L cu_L po_L (some .boolean) 1 0 98 16364 (some mu_L_64) 5000 true 356 alt) = true
  | 0, _ => ck_L_b_64_0
  | i + 1, h => absurd h (by omega)
theorem ck_L_n_64 : (al_L_64.drop 1).isEmpty = true := by decide +kernel
theorem ck_L_b_65_0 : (al_L_65.drop 0).head?.all (fun alt => rf_run nm_cl nm_ct en_xs 8 xx_L kc_L cu_L po_L (some .boolean) 1 0 98 16364 (some mu_L_65) 5000 true 379 alt) = true := by decide +kernel
theorem ck_L_c_65 : ∀ i, i < 1 → (al_L_65.drop i).head?.all (fun alt => rf_run nm_cl nm_ct en_xs 8 xx_L kc_L cu_L po_L (some .boolean) 1 0 98 16364 (some mu_L_65) 5000 true 379 alt) = true
  | 0, _ => ck_L_b_65_0
  | i + 1, h => absurd h (by omega)
theorem ck_L_n_65 : (al_L_65.drop 1).isEmpty = true := by decide +kernel
theorem ck_L_b_66_0 : (al_L_66.drop 0).head?.all (fun alt => rf_run nm_cl nm_ct en_xs 8 xx_L kc_L cu_L po_L (some .boolean) 1 0 98 16364 (some mu_L_66) 5000 true 392 alt) = true := by decide +kernel
theorem ck_L_c_66 : ∀ i, i < 1 → (al_L_66.drop i).head?.all (fun alt => rf_run nm_cl nm_ct en_xs 8 xx_L kc_L cu_L po_L (some .boolean) 1 0 98 16364 (some mu_L_66) 5000 true 392 alt) = true
  | 0, _ => ck_L_b_66_0
  | i + 1, h => absurd h (by omega)
theorem ck_L_n_66 : (al_L_66.drop 1).isEmpty = true := by decide +kernel
theorem ck_L_b_67_0 : (al_L_67.drop 0).head?.all (fun alt => rf_run nm_cl nm_ct en_xs 8 xx_L kc_L cu_L po_L (some .boolean) 1 0 98 16364 (some mu_L_67) 5000 true 435 alt) = true := by decide +kernel
theorem ck_L_c_67 : ∀ i, i < 1 → (al_L_67.drop i).head?.all (fun alt => rf_run nm_cl nm_ct en_xs 8 xx_L kc_L cu_L po_L (some .boolean) 1 0 98 16364 (some mu_L_67) 5000 true 435 alt) = true
  | 0, _ => ck_L_b_67_0
  | i + 1, h => absurd h (by omega)
theorem ck_L_n_67 : (al_L_67.drop 1).isEmpty = true := by decide +kernel
theorem ck_L_b_68_0 : (al_L_68.drop 0).head?.all (fun alt => rf_run nm_cl nm_ct en_xs 8 xx_L kc_L cu_L po_L (some .boolean) 1 0 98 16364 (some mu_L_68) 5000 true 468 alt) = true := by decide +kernel
theorem ck_L_c_68 : ∀ i, i < 1 → (al_L_68.drop i).head?.all (fun alt => rf_run nm_cl nm_ct en_xs 8 xx_L kc_L cu_L po_L (some .boolean) 1 0 98 16364 (some mu_L_68) 5000 true 468 alt) = true
  | 0, _ => ck_L_b_68_0
  | i + 1, h => absurd h (by omega)
theorem ck_L_n_68 : (al_L_68.drop 1).isEmpty = true := by decide +kernel
theorem ck_L_b_69_0 : (al_L_69.drop 0).head?.all (fun alt => rf_run nm_cl nm_ct en_xs 8 xx_L kc_L cu_L po_L (some .boolean) 1 0 98 16364 (some mu_L_69) 5000 true 511 alt) = true := by decide +kernel
theorem ck_L_c_69 : ∀ i, i < 1 → (al_L_69.drop i).head?.all (fun alt => rf_run nm_cl nm_ct en_xs 8 xx_L kc_L cu_L po_L (some .boolean) 1 0 98 16364 (some mu_L_69) 5000 true 511 alt) = true
  | 0, _ => ck_L_b_69_0
  | i + 1, h => absurd h (by omega)
theorem ck_L_n_69 : (al_L_69.drop 1).isEmpty = true := by decide +kernel
theorem ck_L_b_70_0 : (al_L_70.drop 0).head?.all (fun alt => rf_run nm_cl nm_ct en_xs 8 xx_L kc_L cu_L po_L (some .boolean) 1 0 98 16364 (some mu_L_70) 5000 true 534 alt) = true := by decide +kernel
theorem ck_L_c_70 : ∀ i, i < 1 → (al_L_70.drop i).head?.all (fun alt => rf_run nm_cl nm_ct en_xs 8 xx_L kc_L cu_L po_L (some .boolean) 1 0 98 16364 (some mu_L_70) 5000 true 534 alt) = true
  | 0, _ => ck_L_b_70_0
  | i + 1, h => absurd h (by omega)
theorem ck_L_n_70 : (al_L_70.drop 1).isEmpty = true := by decide +kernel
