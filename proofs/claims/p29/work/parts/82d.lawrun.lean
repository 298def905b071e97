/-! the law: its checks -/
theorem ck_L_b_25_0 : (al_L_25.drop 0).head?.all (fun alt => rf_run nm_cl nm_ct en_xs 8 xx_L kc_L cu_L po_L (some .boolean) 1 0 98 16364 (some mu_L_25) 5000 true 299 alt) = true := by decide +kernel
theorem ck_L_c_25 : ∀ i, i < 1 → (al_L_25.drop i).head?.all (fun alt => rf_run nm_cl nm_ct en_xs 8 xx_L kc_L cu_L po_L (some .boolean) 1 0 98 16364 (some mu_L_25) 5000 true 299 alt) = true
  | 0, _ => ck_L_b_25_0
  | i + 1, h => absurd h (by omega)
theorem ck_L_n_25 : (al_L_25.drop 1).isEmpty = true := by decide +kernel
theorem ck_L_b_26_0 : (al_L_26.drop 0).head?.all (fun alt => rf_run nm_cl nm_ct en_xs 8 xx_L kc_L cu_L po_L (some .boolean) 1 0 98 16364 (some mu_L_26) 5000 true 299 alt) = true := by decide +kernel
theorem ck_L_c_26 : ∀ i, i < 1 → (al_L_26.drop i).head?.all (fun alt => rf_run nm_cl nm_ct en_xs 8 xx_L kc_L cu_L po_L (some .boolean) 1 0 98 16364 (some mu_L_26) 5000 true 299 alt) = true
  | 0, _ => ck_L_b_26_0
  | i + 1, h => absurd h (by omega)
theorem ck_L_n_26 : (al_L_26.drop 1).isEmpty = true := by decide +kernel
theorem ck_L_b_27_0 : (al_L_27.drop 0).head?.all (fun alt => rf_run nm_cl nm_ct en_xs 8 xx_L kc_L cu_L po_L (some .boolean) 1 0 98 16364 (some mu_L_27) 5000 true 299 alt) = true := by decide +kernel
theorem ck_L_c_27 : ∀ i, i < 1 → (al_L_27.drop i).head?.all (fun alt => rf_run nm_cl nm_ct en_xs 8 xx_L kc_L cu_L po_L (some .boolean) 1 0 98 16364 (some mu_L_27) 5000 true 299 alt) = true
  | 0, _ => ck_L_b_27_0
  | i + 1, h => absurd h (by omega)
theorem ck_L_n_27 : (al_L_27.drop 1).isEmpty = true := by decide +kernel
theorem ck_L_b_28_0 : (al_L_28.drop 0).head?.all (fun alt => rf_run nm_cl nm_ct en_xs 8 xx_L kc_L cu_L po_L (some .boolean) 1 0 98 16364 (some mu_L_28) 5000 true 299 alt) = true := by decide +kernel
theorem ck_L_c_28 : ∀ i, i < 1 → (al_L_28.drop i).head?.all (fun alt => rf_run nm_cl nm_ct en_xs 8 xx_L kc_L cu_L po_L (some .boolean) 1 0 98 16364 (some mu_L_28) 5000 true 299 alt) = true
  | 0, _ => ck_L_b_28_0
  | i + 1, h => absurd h (by omega)
theorem ck_L_n_28 : (al_L_28.drop 1).isEmpty = true := by decide +kernel
theorem ck_L_b_29_0 : (al_L_29.drop 0).head?.all (fun alt => rf_run nm_cl nm_ct en_xs 8 xx_L kc_L cu_L po_L (some .boolean) 1 0 98 16364 (some mu_L_29) 5000 true 319 alt) = true := by decide +kernel
theorem ck_L_c_29 : ∀ i, i < 1 → (al_L_29.drop i).head?.all (fun alt => rf_run nm_cl nm_ct en_xs 8 xx_L kc_L cu_L po_L (some .boolean) 1 0 98 16364 (some mu_L_29) 5000 true 319 alt) = true
  | 0, _ => ck_L_b_29_0
  | i + 1, h => absurd h (by omega)
theorem ck_L_n_29 : (al_L_29.drop 1).isEmpty = true := by decide +kernel
theorem ck_L_c_30 : ∀ i, i < 0 → (al_L_30.drop i).head?.all (fun alt => rf_run nm_cl nm_ct en_xs 8 xx_L kc_L cu_L po_L (some .boolean) 1 0 98 16364 (some mu_L_30) 5000 true 319 alt) = true
  | i + 0, h => absurd h (by omega)
theorem ck_L_n_30 : (al_L_30.drop 0).isEmpty = true := by decide +kernel
theorem ck_L_c_31 : ∀ i, i < 0 → (al_L_31.drop i).head?.all (fun alt => rf_run nm_cl nm_ct en_xs 8 xx_L kc_L cu_L po_L (some .boolean) 1 0 98 16364 (some mu_L_31) 5000 true 319 alt) = true
  | i + 0, h => absurd h (by omega)
theorem ck_L_n_31 : (al_L_31.drop 0).isEmpty = true := by decide +kernel
theorem ck_L_b_32_0 : (al_L_32.drop 0).head?.all (fun alt => rf_run nm_cl nm_ct en_xs 8 xx_L kc_L cu_L po_L (some .boolean) 1 0 98 16364 (some mu_L_32) 5000 true 319 alt) = true := by decide +kernel
theorem ck_L_c_32 : ∀ i, i < 1 → (al_L_32.drop i).head?.all (fun alt => rf_run nm_cl nm_ct en_xs 8 xx_L kc_L cu_L po_L (some .boolean) 1 0 98 16364 (some mu_L_32) 5000 true 319 alt) = true
  | 0, _ => ck_L_b_32_0
  | i + 1, h => absurd h (by omega)
theorem ck_L_n_32 : (al_L_32.drop 1).isEmpty = true := by decide +kernel
theorem ck_L_c_33 : ∀ i, i < 0 → (al_L_33.drop i).head?.all (fun alt => rf_run nm_cl nm_ct en_xs 8 xx_L kc_L cu_L po_L (some .boolean) 1 0 98 16364 (some mu_L_33) 5000 true 319 alt) = true
  | i + 0, h => absurd h (by omega)
theorem ck_L_n_33 : (al_L_33.drop 0).isEmpty = true := by decide +kernel
theorem ck_L_c_34 : ∀ i, i < 0 → (al_L_34.drop i).head?.all (fun alt => rf_run nm_cl nm_ct en_xs 8 xx_L kc_L cu_L po_L (some .boolean) 1 0 98 16364 (some mu_L_34) 5000 true 319 alt) = true
  | i + 0, h => absurd h (by omega)
theorem ck_L_n_34 : (al_L_34.drop 0).isEmpty = true := by decide +kernel
theorem ck_L_c_35 : ∀ i, i < 0 → (al_L_35.drop i).head?.all (fun alt => rf_run nm_cl nm_ct en_xs 8 xx_L kc_L cu_L po_L (some .boolean) 1 0 98 16364 (some mu_L_35) 5000 true 319 alt) = true
  | i + 0, h => absurd h (by omega)
theorem ck_L_n_35 : (al_L_35.drop 0).isEmpty = true := by decide +kernel
theorem ck_L_c_36 : ∀ i, i < 0 → (al_L_36.drop i).head?.all (fun alt => rf_run nm_cl nm_ct en_xs 8 xx_L kc_L cu_L po_L (some .boolean) 1 0 98 16364 (some mu_L_36) 5000 true 319 alt) = true
  | i + 0, h => absurd h (by omega)
theorem ck_L_n_36 : (al_L_36.drop 0).isEmpty = true := by decide +kernel
theorem ck_L_c_37 : ∀ i, i < 0 → (al_L_37.drop i).head?.all (fun alt => rf_run nm_cl nm_ct en_xs 8 xx_L kc_L cu_L po_L (some .boolean) 1 0 98 16364 (some mu_L_37) 5000 true 319 alt) = true
  | i + 0, h => absurd h (by omega)
theorem ck_L_n_37 : (al_L_37.drop 0).isEmpty = true := by decide +kernel
theorem ck_L_c_38 : ∀ i, i < 0 → (al_L_38.drop i).head?.all (fun alt => rf_run nm_cl nm_ct en_xs 8 xx_L kc_L cu_L po_L (some .boolean) 1 0 98 16364 (some mu_L_38) 5000 true 319 alt) = true
  | i + 0, h => absurd h (by omega)
theorem ck_L_n_38 : (al_L_38.drop 0).isEmpty = true := by decide +kernel
theorem ck_L_c_39 : ∀ i, i < 0 → (al_L_39.drop i).head?.all (fun alt => rf_run nm_cl nm_ct en_xs 8 xx_L kc_L cu_L po_L (some .boolean) 1 0 98 16364 (some mu_L_39) 5000 true 319 alt) = true
  | i + 0, h => absurd h (by omega)
theorem ck_L_n_39 : (al_L_39.drop 0).isEmpty = true := by decide +kernel
theorem ck_L_c_40 : ∀ i, i < 0 → (al_L_40.drop i).head?.all (fun alt => rf_run nm_cl nm_ct en_xs 8 xx_L kc_L cu_L po_L (some .boolean) 1 0 98 16364 (some mu_L_40) 5000 true 319 alt) = true
  | i + 0, h => absurd h (by omega)
theorem ck_L_n_40 : (al_L_40.drop 0).isEmpty = true := by decide +kernel
theorem ck_L_c_41 : ∀ i, i < 0 → (al_L_41.drop i).head?.all (fun alt => rf_run nm_cl nm_ct en_xs 8 xx_L kc_L cu_L po_L (some .boolean) 1 0 98 16364 (some mu_L_41) 5000 true 319 alt) = true
  | i + 0, h => absurd h (by omega)
theorem ck_L_n_41 : (al_L_41.drop 0).isEmpty = true := by decide +kernel
theorem ck_L_c_42 : ∀ i, i < 0 → (al_L_42.drop i).head?.all (fun alt => rf_run nm_cl nm_ct en_xs 8 xx_L kc_L cu_L po_L (some .boolean) 1 0 98 16364 (some mu_L_42) 5000 true 319 alt) = true
  | i + 0, h => absurd h (by omega)
theorem ck_L_n_42 : (al_L_42.drop 0).isEmpty = true := by decide +kernel
theorem ck_L_c_43 : ∀ i, i < 0 → (al_L_43.drop i).head?.all (fun alt => rf_run nm_cl nm_ct en_xs 8 xx_L kc_L cu_L po_L (some .boolean) 1 0 98 16364 (some mu_L_43) 5000 true 319 alt) = true
  | i + 0, h => absurd h (by omega)
theorem ck_L_n_43 : (al_L_43.drop 0).isEmpty = true := by decide +kernel
theorem ck_L_c_44 : ∀ i, i < 0 → (al_L_44.drop i).head?.all (fun alt => rf_run nm_cl nm_ct en_xs 8 xx_L kc_L cu_L po_L (some .boolean) 1 0 98 16364 (some mu_L_44) 5000 true 319 alt) = true
  | i + 0, h => absurd h (by omega)
theorem ck_L_n_44 : (al_L_44.drop 0).isEmpty = true := by decide +kernel
theorem ck_L_c_45 : ∀ i, i < 0 → (al_L_45.drop i).head?.all (fun alt => rf_run nm_cl nm_ct en_xs 8 xx_L kc_L cu_L po_L (some .boolean) 1 0 98 16364 (some mu_L_45) 5000 true 319 alt) = true
  | i + 0, h => absurd h (by omega)
theorem ck_L_n_45 : (al_L_45.drop 0).isEmpty = true := by decide +kernel
theorem ck_L_c_46 : ∀ i, i < 0 → (al_L_46.drop i).head?.all (fun alt => rf_run nm_cl nm_ct en_xs 8 xx_L kc_L cu_L po_L (some .boolean) 1 0 98 16364 (some mu_L_46) 5000 true 319 alt) = true
  | i + 0, h => absurd h (by omega)
theorem ck_L_n_46 : (al_L_46.drop 0).isEmpty = true := by decide +kernel
theorem ck_L_c_47 : ∀ i, i < 0 → (al_L_47.drop i).head?.all (fun alt => rf_run nm_cl nm_ct en_xs 8 xx_L kc_L cu_L po_L (some .boolean) 1 0 98 16364 (some mu_L_47) 5000 true 319 alt) = true
  | i + 0, h => absurd h (by omega)
theorem ck_L_n_47 : (al_L_47.drop 0).isEmpty = true := by decide +kernel
theorem ck_L_b_48_0 : (al_L_48.drop 0).head?.all (fun alt => rf_run nm_cl nm_ct en_xs 8 xx_L kc_L cu_L po_L (some .boolean) 1 0 98 16364 (some mu_L_48) 5000 true 319 alt) = true := by decide +kernel
theorem ck_L_c_48 : ∀ i, i < 1 → (al_L_48.drop i).head?.all (fun alt => rf_run nm_cl nm_ct en_xs 8 xx_L kc_L cu_L po_L (some .boolean) 1 0 98 16364 (some mu_L_48) 5000 true 319 alt) = true
  | 0, _ => ck_L_b_48_0
  | i + 1, h => absurd h (by omega)
theorem ck_L_n_48 : (al_L_48.drop 1).isEmpty = true := by decide +kernel
theorem ck_L_c_49 : ∀ i, i < 0 → (al_L_49.drop i).head?.all (fun alt => rf_run nm_cl nm_ct en_xs 8 xx_L kc_L cu_L po_L (some .boolean) 1 0 98 16364 (some mu_L_49) 5000 true 319 alt) = true
  | i + 0, h => absurd h (by omega)
theorem ck_L_n_49 : (al_L_49.drop 0).isEmpty = true := by decide +kernel
theorem ck_L_c_50 : ∀ i, i < 0 → (al_L_50.drop i).head?.all (fun alt => rf_run nm_cl nm_ct en_xs 8 xx_L kc_L cu_L po_L (some .boolean) 1 0 98 16364 (some mu_L_50) 5000 true 319 alt) = true
  | i + 0, h => absurd h (by omega)
theorem ck_L_n_50 : (al_L_50.drop 0).isEmpty = true := by decide +kernel
theorem ck_L_c_51 : ∀ i, i < 0 → (al_L_51.drop i).head?.all (fun alt => rf_run nm_cl nm_ct en_xs 8 xx_L kc_L cu_L po_L (some .boolean) 1 0 98 16364 (some mu_L_51) 5000 true 319 alt) = true
  | i + 0, h => absurd h (by omega)
theorem ck_L_n_51 : (al_L_51.drop 0).isEmpty = true := by decide +kernel
theorem ck_L_b_52_0 : (al_L_52.drop 0).head?.all (fun alt => rf_run nm_cl nm_ct en_xs 8 xx_L kc_L cu_L po_L (some .boolean) 1 0 98 16364 (some mu_L_52) 5000 true 319 alt) = true := by decide +kernel
theorem ck_L_c_52 : ∀ i, i < 1 → (al_L_52.drop i).head?.all (fun alt => rf_run nm_cl nm_ct en_xs 8 xx_L kc_L cu_L po_L (some .boolean) 1 0 98 16364 (some mu_L_52) 5000 true 319 alt) = true
  | 0, _ => ck_L_b_52_0
  | i + 1, h => absurd h (by omega)
theorem ck_L_n_52 : (al_L_52.drop 1).isEmpty = true := by decide +kernel
theorem ck_L_c_53 : ∀ i, i < 0 → (al_L_53.drop i).head?.all (fun alt => rf_run nm_cl nm_ct en_xs 8 xx_L kc_L cu_L po_L (some .boolean) 1 0 98 16364 (some mu_L_53) 5000 true 319 alt) = true
  | i + 0, h => absurd h (by omega)
theorem ck_L_n_53 : (al_L_53.drop 0).isEmpty = true := by decide +kernel
theorem ck_L_b_54_0 : (al_L_54.drop 0).head?.all (fun alt => rf_run nm_cl nm_ct en_xs 8 xx_L kc_L cu_L po_L (some .boolean) 1 0 98 16364 (some mu_L_54) 5000 true 319 alt) = true := by decide +kernel
theorem ck_L_c_54 : ∀ i, i < 1 → (al_L_54.drop i).head?.all (fun alt => rf_run nm_cl nm_ct en_xs 8 xx_L kc_L cu_L po_L (some .boolean) 1 0 98 16364 (some mu_L_54) 5000 true 319 alt) = true
  | 0, _ => ck_L_b_54_0
  | i + 1, h => absurd h (by omega)
theorem ck_L_n_54 : (al_L_54.drop 1).isEmpty = true := by decide +kernel
theorem ck_L_c_55 : ∀ i, i < 0 → (al_L_55.drop i).head?.all (fun alt => rf_run nm_cl nm_ct en_xs 8 xx_L kc_L cu_L po_L (some .boolean) 1 0 98 16364 (some mu_L_55) 5000 true 319 alt) = true
  | i + 0, h => absurd h (by omega)
theorem ck_L_n_55 : (al_L_55.drop 0).isEmpty = true := by decide +kernel
theorem ck_L_c_56 : ∀ i, i < 0 → (al_L_56.drop i).head?.all (fun alt => rf_run nm_cl nm_ct en_xs 8 xx_L kc_L cu_L po_L (some .boolean) 1 0 98 16364 (some mu_L_56) 5000 true 319 alt) = true
  | i + 0, h => absurd h (by omega)
theorem ck_L_n_56 : (al_L_56.drop 0).isEmpty = true := by decide +kernel
theorem ck_L_c_57 : ∀ i, i < 0 → (al_L_57.drop i).head?.all (fun alt => rf_run nm_cl nm_ct en_xs 8 xx_L kc_L cu_L po_L (some .boolean) 1 0 98 16364 (some mu_L_57) 5000 true 319 alt) = true
  | i + 0, h => absurd h (by omega)
theorem ck_L_n_57 : (al_L_57.drop 0).isEmpty = true := by decide +kernel
theorem ck_L_c_58 : ∀ i, i < 0 → (al_L_58.drop i).head?.all (fun alt => rf_run nm_cl nm_ct en_xs 8 xx_L kc_L cu_L po_L (some .boolean) 1 0 98 16364 (some mu_L_58) 5000 true 319 alt) = true
  | i + 0, h => absurd h (by omega)
theorem ck_L_n_58 : (al_L_58.drop 0).isEmpty = true := by decide +kernel
theorem ck_L_c_59 : ∀ i, i < 0 → (al_L_59.drop i).head?.all (fun alt => rf_run nm_cl nm_ct en_xs 8 xx_L kc_L cu_L po_L (some .boolean) 1 0 98 16364 (some mu_L_59) 5000 true 319 alt) = true
  | i + 0, h => absurd h (by omega)
theorem ck_L_n_59 : (al_L_59.drop 0).isEmpty = true := by decide +kernel
theorem ck_L_c_60 : ∀ i, i < 0 → (al_L_60.drop i).head?.all (fun alt => rf_run nm_cl nm_ct en_xs 8 xx_L kc_L cu_L po_L (some .boolean) 1 0 98 16364 (some mu_L_60) 5000 true 319 alt) = true
  | i + 0, h => absurd h (by omega)
theorem ck_L_n_60 : (al_L_60.drop 0).isEmpty = true := by decide +kernel
theorem ck_L_c_61 : ∀ i, i < 0 → (al_L_61.drop i).head?.all (fun alt => rf_run nm_cl nm_ct en_xs 8 xx_L kc_L cu_L po_L (some .boolean) 1 0 98 16364 (some mu_L_61) 5000 true 319 alt) = true
  | i + 0, h => absurd h (by omega)
theorem ck_L_n_61 : (al_L_61.drop 0).isEmpty = true := by decide +kernel
theorem ck_L_b_62_0 : (al_L_62.drop 0).head?.all (fun alt => rf_run nm_cl nm_ct en_xs 8 xx_L kc_L cu_L po_L (some .boolean) 1 0 98 16364 (some mu_L_62) 5000 true 319 alt) = true := by decide +kernel
theorem ck_L_c_62 : ∀ i, i < 1 → (al_L_62.drop i).head?.all (fun alt => rf_run nm_cl nm_ct en_xs 8 xx_L kc_L cu_L po_L (some .boolean) 1 0 98 16364 (some mu_L_62) 5000 true 319 alt) = true
  | 0, _ => ck_L_b_62_0
  | i + 1, h => absurd h (by omega)
theorem ck_L_n_62 : (al_L_62.drop 1).isEmpty = true := by decide +kernel
theorem ck_L_c_63 : ∀ i, i < 0 → (al_L_63.drop i).head?.all (fun alt => rf_run nm_cl nm_ct en_xs 8 xx_L kc_L cu_L po_L (some .boolean) 1 0 98 16364 (some mu_L_63) 5000 true 319 alt) = true
  | i + 0, h => absurd h (by omega)
theorem ck_L_n_63 : (al_L_63.drop 0).isEmpty = true := by decide +kernel
theorem ck_L_c_64 : ∀ i, i < 0 → (al_L_64.drop i).head?.all (fun alt => rf_run nm_cl nm_ct en_xs 8 xx_L kc_L cu_L po_L (some .boolean) 1 0 98 16364 (some mu_L_64) 5000 true 319 alt) = true
  | i + 0, h => absurd h (by omega)
theorem ck_L_n_64 : (al_L_64.drop 0).isEmpty = true := by decide +kernel
theorem ck_L_c_65 : ∀ i, i < 0 → (al_L_65.drop i).head?.all (fun alt => rf_run nm_cl nm_ct en_xs 8 xx_L kc_L cu_L po_L (some .boolean) 1 0 98 16364 (some mu_L_65) 5000 true 319 alt) = true
  | i + 0, h => absurd h (by omega)
theorem ck_L_n_65 : (al_L_65.drop 0).isEmpty = true := by decide +kernel
theorem ck_L_c_66 : ∀ i, i < 0 → (al_L_66.drop i).head?.all (fun alt => rf_run nm_cl nm_ct en_xs 8 xx_L kc_L cu_L po_L (some .boolean) 1 0 98 16364 (some mu_L_66) 5000 true 319 alt) = true
  | i + 0, h => absurd h (by omega)
theorem ck_L_n_66 : (al_L_66.drop 0).isEmpty = true := by decide +kernel
theorem ck_L_c_67 : ∀ i, i < 0 → (al_L_67.drop i).head?.all (fun alt => rf_run nm_cl nm_ct en_xs 8 xx_L kc_L cu_L po_L (some .boolean) 1 0 98 16364 (some mu_L_67) 5000 true 319 alt) = true
  | i + 0, h => absurd h (by omega)
theorem ck_L_n_67 : (al_L_67.drop 0).isEmpty = true := by decide +kernel
theorem ck_L_b_68_0 : (al_L_68.drop 0).head?.all (fun alt => rf_run nm_cl nm_ct en_xs 8 xx_L kc_L cu_L po_L (some .boolean) 1 0 98 16364 (some mu_L_68) 5000 true 319 alt) = true := by decide +kernel
theorem ck_L_c_68 : ∀ i, i < 1 → (al_L_68.drop i).head?.all (fun alt => rf_run nm_cl nm_ct en_xs 8 xx_L kc_L cu_L po_L (some .boolean) 1 0 98 16364 (some mu_L_68) 5000 true 319 alt) = true
  | 0, _ => ck_L_b_68_0
  | i + 1, h => absurd h (by omega)
theorem ck_L_n_68 : (al_L_68.drop 1).isEmpty = true := by decide +kernel
theorem ck_L_c_69 : ∀ i, i < 0 → (al_L_69.drop i).head?.all (fun alt => rf_run nm_cl nm_ct en_xs 8 xx_L kc_L cu_L po_L (some .boolean) 1 0 98 16364 (some mu_L_69) 5000 true 319 alt) = true
  | i + 0, h => absurd h (by omega)
theorem ck_L_n_69 : (al_L_69.drop 0).isEmpty = true := by decide +kernel
theorem ck_L_b_70_0 : (al_L_70.drop 0).head?.all (fun alt => rf_run nm_cl nm_ct en_xs 8 xx_L kc_L cu_L po_L (some .boolean) 1 0 98 16364 (some mu_L_70) 5000 true 323 alt) = true := by decide +kernel
theorem ck_L_c_70 : ∀ i, i < 1 → (al_L_70.drop i).head?.all (fun alt => rf_run nm_cl nm_ct en_xs 8 xx_L kc_L cu_L po_L (some .boolean) 1 0 98 16364 (some mu_L_70) 5000 true 323 alt) = true
  | 0, _ => ck_L_b_70_0
  | i + 1, h => absurd h (by omega)
theorem ck_L_n_70 : (al_L_70.drop 1).isEmpty = true := by decide +kernel
