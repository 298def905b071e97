/-! the law: its checks -/
theorem ck_L_b_35_4 : (al_L_35.drop 4).head?.all (fun alt => rf_run nm_cl nm_ct en_xs 8 xx_L kc_L cu_L po_L (some .boolean) 1 0 98 16364 (some mu_L_35) 5000 true 1191 alt) = true := by decide +kernel
theorem ck_L_b_35_5 : (al_L_35.drop 5).head?.all (fun alt => rf_run nm_cl nm_ct en_xs 8 xx_L kc_L cu_L po_L (some .boolean) 1 0 98 16364 (some mu_L_35) 5000 true 1191 alt) = true := by decide +kernel
theorem ck_L_b_35_6 : (al_L_35.drop 6).head?.all (fun alt => rf_run nm_cl nm_ct en_xs 8 xx_L kc_L cu_L po_L (some .boolean) 1 0 98 16364 (some mu_L_35) 5000 true 1191 alt) = true := by decide +kernel
theorem ck_L_b_35_7 : (al_L_35.drop 7).head?.all (fun alt => rf_run nm_cl nm_ct en_xs 8 xx_L kc_L cu_L po_L (some .boolean) 1 0 98 16364 (some mu_L_35) 5000 true 1191 alt) = true := by decide +kernel
theorem ck_L_c_35 : ∀ i, i < 8 → (al_L_35.drop i).head?.all (fun alt => rf_run nm_cl nm_ct en_xs 8 xx_L kc_L cu_L po_L (some .boolean) 1 0 98 16364 (some mu_L_35) 5000 true 1191 alt) = true
  | 0, _ => ck_L_b_35_0
  | 1, _ => ck_L_b_35_1
  | 2, _ => ck_L_b_35_2
  | 3, _ => ck_L_b_35_3
  | 4, _ => ck_L_b_35_4
  | 5, _ => ck_L_b_35_5
  | 6, _ => ck_L_b_35_6
  | 7, _ => ck_L_b_35_7
  | i + 8, h => absurd h (by omega)
theorem ck_L_n_35 : (al_L_35.drop 8).isEmpty = true := by decide +kernel
theorem ck_L_b_36_0 : (al_L_36.drop 0).head?.all (fun alt => rf_run nm_cl nm_ct en_xs 8 xx_L kc_L cu_L po_L (some .boolean) 1 0 98 16364 (some mu_L_36) 5000 true 1209 alt) = true := by decide +kernel
theorem ck_L_c_36 : ∀ i, i < 1 → (al_L_36.drop i).head?.all (fun alt => rf_run nm_cl nm_ct en_xs 8 xx_L kc_L cu_L po_L (some .boolean) 1 0 98 16364 (some mu_L_36) 5000 true 1209 alt) = true
  | 0, _ => ck_L_b_36_0
  | i + 1, h => absurd h (by omega)
theorem ck_L_n_36 : (al_L_36.drop 1).isEmpty = true := by decide +kernel
theorem ck_L_b_37_0 : (al_L_37.drop 0).head?.all (fun alt => rf_run nm_cl nm_ct en_xs 8 xx_L kc_L cu_L po_L (some .boolean) 1 0 98 16364 (some mu_L_37) 5000 true 1209 alt) = true := by decide +kernel
theorem ck_L_c_37 : ∀ i, i < 1 → (al_L_37.drop i).head?.all (fun alt => rf_run nm_cl nm_ct en_xs 8 xx_L kc_L cu_L po_L (some .boolean) 1 0 98 16364 (some mu_L_37) 5000 true 1209 alt) = true
  | 0, _ => ck_L_b_37_0
  | i + 1, h => absurd h (by omega)
theorem ck_L_n_37 : (al_L_37.drop 1).isEmpty = true := by decide +kernel
theorem ck_L_b_38_0 : (al_L_38.drop 0).head?.all (fun alt => rf_run nm_cl nm_ct en_xs 8 xx_L kc_L cu_L po_L (some .boolean) 1 0 98 16364 (some mu_L_38) 5000 true 1209 alt) = true := by decide +kernel
theorem ck_L_c_38 : ∀ i, i < 1 → (al_L_38.drop i).head?.all (fun alt => rf_run nm_cl nm_ct en_xs 8 xx_L kc_L cu_L po_L (some .boolean) 1 0 98 16364 (some mu_L_38) 5000 true 1209 alt) = true
  | 0, _ => ck_L_b_38_0
  | i + 1, h => absurd h (by omega)
theorem ck_L_n_38 : (al_L_38.drop 1).isEmpty = true := by decide +kernel
theorem ck_L_b_39_0 : (al_L_39.drop 0).head?.all (fun alt => rf_run nm_cl nm_ct en_xs 8 xx_L kc_L cu_L po_L (some .boolean) 1 0 98 16364 (some mu_L_39) 5000 true 1209 alt) = true := by decide +kernel
theorem ck_L_c_39 : ∀ i, i < 1 → (al_L_39.drop i).head?.all (fun alt => rf_run nm_cl nm_ct en_xs 8 xx_L kc_L cu_L po_L (some .boolean) 1 0 98 16364 (some mu_L_39) 5000 true 1209 alt) = true
  | 0, _ => ck_L_b_39_0
  | i + 1, h => absurd h (by omega)
theorem ck_L_n_39 : (al_L_39.drop 1).isEmpty = true := by decide +kernel
theorem ck_L_b_40_0 : (al_L_40.drop 0).head?.all (fun alt => rf_run nm_cl nm_ct en_xs 8 xx_L kc_L cu_L po_L (some .boolean) 1 0 98 16364 (some mu_L_40) 5000 true 1209 alt) = true := by decide +kernel
theorem ck_L_c_40 : ∀ i, i < 1 → (al_L_40.drop i).head?.all (fun alt => rf_run nm_cl nm_ct en_xs 8 xx_L kc_L cu_L po_L (some .boolean) 1 0 98 16364 (some mu_L_40) 5000 true 1209 alt) = true
  | 0, _ => ck_L_b_40_0
  | i + 1, h => absurd h (by omega)
theorem ck_L_n_40 : (al_L_40.drop 1).isEmpty = true := by decide +kernel
theorem ck_L_b_41_0 : (al_L_41.drop 0).head?.all (fun alt => rf_run nm_cl nm_ct en_xs 8 xx_L kc_L cu_L po_L (some .boolean) 1 0 98 16364 (some mu_L_41) 5000 true 1209 alt) = true := by decide +kernel
theorem ck_L_c_41 : ∀ i, i < 1 → (al_L_41.drop i).head?.all (fun alt => rf_run nm_cl nm_ct en_xs 8 xx_L kc_L cu_L po_L (some .boolean) 1 0 98 16364 (some mu_L_41) 5000 true 1209 alt) = true
  | 0, _ => ck_L_b_41_0
  | i + 1, h => absurd h (by omega)
theorem ck_L_n_41 : (al_L_41.drop 1).isEmpty = true := by decide +kernel
theorem ck_L_b_42_0 : (al_L_42.drop 0).head?.all (fun alt => rf_run nm_cl nm_ct en_xs 8 xx_L kc_L cu_L po_L (some .boolean) 1 0 98 16364 (some mu_L_42) 5000 true 1209 alt) = true := by decide +kernel
theorem ck_L_c_42 : ∀ i, i < 1 → (al_L_42.drop i).head?.all (fun alt => rf_run nm_cl nm_ct en_xs 8 xx_L kc_L cu_L po_L (some .boolean) 1 0 98 16364 (some mu_L_42) 5000 true 1209 alt) = true
  | 0, _ => ck_L_b_42_0
  | i + 1, h => absurd h (by omega)
theorem ck_L_n_42 : (al_L_42.drop 1).isEmpty = true := by decide +kernel
theorem ck_L_b_43_0 : (al_L_43.drop 0).head?.all (fun alt => rf_run nm_cl nm_ct en_xs 8 xx_L kc_L cu_L po_L (some .boolean) 1 0 98 16364 (some mu_L_43) 5000 true 1209 alt) = true := by decide +kernel
theorem ck_L_c_43 : ∀ i, i < 1 → (al_L_43.drop i).head?.all (fun alt => rf_run nm_cl nm_ct en_xs 8 xx_L kc_L cu_L po_L (some .boolean) 1 0 98 16364 (some mu_L_43) 5000 true 1209 alt) = true
  | 0, _ => ck_L_b_43_0
  | i + 1, h => absurd h (by omega)
theorem ck_L_n_43 : (al_L_43.drop 1).isEmpty = true := by decide +kernel
theorem ck_L_b_44_0 : (al_L_44.drop 0).head?.all (fun alt => rf_run nm_cl nm_ct en_xs 8 xx_L kc_L cu_L po_L (some .boolean) 1 0 98 16364 (some mu_L_44) 5000 true 1209 alt) = true := by decide +kernel
theorem ck_L_c_44 : ∀ i, i < 1 → (al_L_44.drop i).head?.all (fun alt => rf_run nm_cl nm_ct en_xs 8 xx_L kc_L cu_L po_L (some .boolean) 1 0 98 16364 (some mu_L_44) 5000 true 1209 alt) = true
  | 0, _ => ck_L_b_44_0
  | i + 1, h => absurd h (by omega)
theorem ck_L_n_44 : (al_L_44.drop 1).isEmpty = true := by decide +kernel
theorem ck_L_b_45_0 : (al_L_45.drop 0).head?.all (fun alt => rf_run nm_cl nm_ct en_xs 8 xx_L kc_L cu_L po_L (some .boolean) 1 0 98 16364 (some mu_L_45) 5000 true 1209 alt) = true := by decide +kernel
theorem ck_L_c_45 : ∀ i, i < 1 → (al_L_45.drop i).head?.all (fun alt => rf_run nm_cl nm_ct en_xs 8 xx_L kc_L cu_L po_L (some .boolean) 1 0 98 16364 (some mu_L_45) 5000 true 1209 alt) = true
  | 0, _ => ck_L_b_45_0
  | i + 1, h => absurd h (by omega)
theorem ck_L_n_45 : (al_L_45.drop 1).isEmpty = true := by decide +kernel
theorem ck_L_b_46_0 : (al_L_46.drop 0).head?.all (fun alt => rf_run nm_cl nm_ct en_xs 8 xx_L kc_L cu_L po_L (some .boolean) 1 0 98 16364 (some mu_L_46) 5000 true 1209 alt) = true := by decide +kernel
theorem ck_L_c_46 : ∀ i, i < 1 → (al_L_46.drop i).head?.all (fun alt => rf_run nm_cl nm_ct en_xs 8 xx_L kc_L cu_L po_L (some .boolean) 1 0 98 16364 (some mu_L_46) 5000 true 1209 alt) = true
  | 0, _ => ck_L_b_46_0
  | i + 1, h => absurd h (by omega)
theorem ck_L_n_46 : (al_L_46.drop 1).isEmpty = true := by decide +kernel
theorem ck_L_b_47_0 : (al_L_47.drop 0).head?.all (fun alt => rf_run nm_cl nm_ct en_xs 8 xx_L kc_L cu_L po_L (some .boolean) 1 0 98 16364 (some mu_L_47) 5000 true 1209 alt) = true := by decide +kernel
theorem ck_L_c_47 : ∀ i, i < 1 → (al_L_47.drop i).head?.all (fun alt => rf_run nm_cl nm_ct en_xs 8 xx_L kc_L cu_L po_L (some .boolean) 1 0 98 16364 (some mu_L_47) 5000 true 1209 alt) = true
  | 0, _ => ck_L_b_47_0
  | i + 1, h => absurd h (by omega)
theorem ck_L_n_47 : (al_L_47.drop 1).isEmpty = true := by decide +kernel
theorem ck_L_b_48_0 : (al_L_48.drop 0).head?.all (fun alt => rf_run nm_cl nm_ct en_xs 8 xx_L kc_L cu_L po_L (some .boolean) 1 0 98 16364 (some mu_L_48) 5000 true 1209 alt) = true := by decide +kernel
theorem ck_L_c_48 : ∀ i, i < 1 → (al_L_48.drop i).head?.all (fun alt => rf_run nm_cl nm_ct en_xs 8 xx_L kc_L cu_L po_L (some .boolean) 1 0 98 16364 (some mu_L_48) 5000 true 1209 alt) = true
  | 0, _ => ck_L_b_48_0
  | i + 1, h => absurd h (by omega)
theorem ck_L_n_48 : (al_L_48.drop 1).isEmpty = true := by decide +kernel
theorem ck_L_b_49_0 : (al_L_49.drop 0).head?.all (fun alt => rf_run nm_cl nm_ct en_xs 8 xx_L kc_L cu_L po_L (some .boolean) 1 0 98 16364 (some mu_L_49) 5000 true 1213 alt) = true := by decide +kernel
theorem ck_L_c_49 : ∀ i, i < 1 → (al_L_49.drop i).head?.all (fun alt => rf_run nm_cl nm_ct en_xs 8 xx_L kc_L cu_L po_L (some .boolean) 1 0 98 16364 (some mu_L_49) 5000 true 1213 alt) = true
  | 0, _ => ck_L_b_49_0
  | i + 1, h => absurd h (by omega)
theorem ck_L_n_49 : (al_L_49.drop 1).isEmpty = true := by decide +kernel
theorem ck_L_b_50_0 : (al_L_50.drop 0).head?.all (fun alt => rf_run nm_cl nm_ct en_xs 8 xx_L kc_L cu_L po_L (some .boolean) 1 0 98 16364 (some mu_L_50) 5000 true 1229 alt) = true := by decide +kernel
theorem ck_L_b_50_1 : (al_L_50.drop 1).head?.all (fun alt => rf_run nm_cl nm_ct en_xs 8 xx_L kc_L cu_L po_L (some .boolean) 1 0 98 16364 (some mu_L_50) 5000 true 1229 alt) = true := by decide +kernel
theorem ck_L_b_50_2 : (al_L_50.drop 2).head?.all (fun alt => rf_run nm_cl nm_ct en_xs 8 xx_L kc_L cu_L po_L (some .boolean) 1 0 98 16364 (some mu_L_50) 5000 true 1229 alt) = true := by decide +kernel
theorem ck_L_b_50_3 : (al_L_50.drop 3).head?.all (fun alt => rf_run nm_cl nm_ct en_xs 8 xx_L kc_L cu_L po_L (some .boolean) 1 0 98 16364 (some mu_L_50) 5000 true 1229 alt) = true := by decide +kernel
theorem ck_L_b_50_4 : (al_L_50.drop 4).head?.all (fun alt => rf_run nm_cl nm_ct en_xs 8 xx_L kc_L cu_L po_L (some .boolean) 1 0 98 16364 (some mu_L_50) 5000 true 1229 alt) = true := by decide +kernel
theorem ck_L_b_50_5 : (al_L_50.drop 5).head?.all (fun alt => rf_run nm_cl nm_ct en_xs 8 xx_L kc_L cu_L po_L (some .boolean) 1 0 98 16364 (some mu_L_50) 5000 true 1229 alt) = true := by decide +kernel
theorem ck_L_b_50_6 : (al_L_50.drop 6).head?.all (fun alt => rf_run nm_cl nm_ct en_xs 8 xx_L kc_L cu_L po_L (some .boolean) 1 0 98 16364 (some mu_L_50) 5000 true 1229 alt) = true := by decide +kernel
theorem ck_L_b_50_7 : (al_L_50.drop 7).head?.all (fun alt => rf_run nm_cl nm_ct en_xs 8 xx_L kc_L cu_L po_L (some .boolean) 1 0 98 16364 (some mu_L_50) 5000 true 1229 alt) = true := by decide +kernel
theorem ck_L_c_50 : ∀ i, i < 8 → (al_L_50.drop i).head?.all (fun alt => rf_run nm_cl nm_ct en_xs 8 xx_L kc_L cu_L po_L (some .boolean) 1 0 98 16364 (some mu_L_50) 5000 true 1229 alt) = true
  | 0, _ => ck_L_b_50_0
  | 1, _ => ck_L_b_50_1
  | 2, _ => ck_L_b_50_2
  | 3, _ => ck_L_b_50_3
  | 4, _ => ck_L_b_50_4
  | 5, _ => ck_L_b_50_5
  | 6, _ => ck_L_b_50_6
  | 7, _ => ck_L_b_50_7
  | i + 8, h => absurd h (by omega)
theorem ck_L_n_50 : (al_L_50.drop 8).isEmpty = true := by decide +kernel
theorem ck_L_b_51_0 : (al_L_51.drop 0).head?.all (fun alt => rf_run nm_cl nm_ct en_xs 8 xx_L kc_L cu_L po_L (some .boolean) 1 0 98 16364 (some mu_L_51) 5000 true 1252 alt) = true := by decide +kernel
theorem ck_L_c_51 : ∀ i, i < 1 → (al_L_51.drop i).head?.all (fun alt => rf_run nm_cl nm_ct en_xs 8 xx_L kc_L cu_L po_L (some .boolean) 1 0 98 16364 (some mu_L_51) 5000 true 1252 alt) = true
  | 0, _ => ck_L_b_51_0
  | i + 1, h => absurd h (by omega)
theorem ck_L_n_51 : (al_L_51.drop 1).isEmpty = true := by decide +kernel
theorem ck_L_b_52_0 : (al_L_52.drop 0).head?.all (fun alt => rf_run nm_cl nm_ct en_xs 8 xx_L kc_L cu_L po_L (some .boolean) 1 0 98 16364 (some mu_L_52) 5000 true 1252 alt) = true := by decide +kernel
theorem ck_L_c_52 : ∀ i, i < 1 → (al_L_52.drop i).head?.all (fun alt => rf_run nm_cl nm_ct en_xs 8 xx_L kc_L cu_L po_L (some .boolean) 1 0 98 16364 (some mu_L_52) 5000 true 1252 alt) = true
  | 0, _ => ck_L_b_52_0
  | i + 1, h => absurd h (by omega)
theorem ck_L_n_52 : (al_L_52.drop 1).isEmpty = true := by decide +kernel
theorem ck_L_b_53_0 : (al_L_53.drop 0).head?.all (fun alt => rf_run nm_cl nm_ct en_xs 8 xx_L kc_L cu_L po_L (some .boolean) 1 0 98 16364 (some mu_L_53) 5000 true 1252 alt) = true := by decide +kernel
theorem ck_L_c_53 : ∀ i, i < 1 → (al_L_53.drop i).head?.all (fun alt => rf_run nm_cl nm_ct en_xs 8 xx_L kc_L cu_L po_L (some .boolean) 1 0 98 16364 (some mu_L_53) 5000 true 1252 alt) = true
  | 0, _ => ck_L_b_53_0
  | i + 1, h => absurd h (by omega)
theorem ck_L_n_53 : (al_L_53.drop 1).isEmpty = true := by decide +kernel
theorem ck_L_b_54_0 : (al_L_54.drop 0).head?.all (fun alt => rf_run nm_cl nm_ct en_xs 8 xx_L kc_L cu_L po_L (some .boolean) 1 0 98 16364 (some mu_L_54) 5000 true 1252 alt) = true := by decide +kernel
theorem ck_L_c_54 : ∀ i, i < 1 → (al_L_54.drop i).head?.all (fun alt => rf_run nm_cl nm_ct en_xs 8 xx_L kc_L cu_L po_L (some .boolean) 1 0 98 16364 (some mu_L_54) 5000 true 1252 alt) = true
  | 0, _ => ck_L_b_54_0
  | i + 1, h => absurd h (by omega)
theorem ck_L_n_54 : (al_L_54.drop 1).isEmpty = true := by decide +kernel
theorem ck_L_b_55_0 : (al_L_55.drop 0).head?.all (fun alt => rf_run nm_cl nm_ct en_xs 8 xx_L kc_L cu_L po_L (some .boolean) 1 0 98 16364 (some mu_L_55) 5000 true 1252 alt) = true := by decide +kernel
theorem ck_L_c_55 : ∀ i, i < 1 → (al_L_55.drop i).head?.all (fun alt => rf_run nm_cl nm_ct en_xs 8 xx_L kc_L cu_L po_L (some .boolean) 1 0 98 16364 (some mu_L_55) 5000 true 1252 alt) = true
  | 0, _ => ck_L_b_55_0
  | i + 1, h => absurd h (by omega)
theorem ck_L_n_55 : (al_L_55.drop 1).isEmpty = true := by decide +kernel
theorem ck_L_b_56_0 : (al_L_56.drop 0).head?.all (fun alt => rf_run nm_cl nm_ct en_xs 8 xx_L kc_L cu_L po_L (some .boolean) 1 0 98 16364 (some mu_L_56) 5000 true 1252 alt) = true := by decide +kernel
theorem ck_L_c_56 : ∀ i, i < 1 → (al_L_56.drop i).head?.all (fun alt => rf_run nm_cl nm_ct en_xs 8 xx_L kc_L cu_L po_L (some .boolean) 1 0 98 16364 (some mu_L_56) 5000 true 1252 alt) = true
  | 0, _ => ck_L_b_56_0
  | i + 1, h => absurd h (by omega)
theorem ck_L_n_56 : (al_L_56.drop 1).isEmpty = true := by decide +kernel
theorem ck_L_b_57_0 : (al_L_57.drop 0).head?.all (fun alt => rf_run nm_cl nm_ct en_xs 8 xx_L kc_L cu_L po_L (some .boolean) 1 0 98 16364 (some mu_L_57) 5000 true 1252 alt) = true := by decide +kernel
theorem ck_L_c_57 : ∀ i, i < 1 → (al_L_57.drop i).head?.all (fun alt => rf_run nm_cl nm_ct en_xs 8 xx_L kc_L cu_L po_L (some .boolean) 1 0 98 16364 (some mu_L_57) 5000 true 1252 alt) = true
  | 0, _ => ck_L_b_57_0
  | i + 1, h => absurd h (by omega)
theorem ck_L_n_57 : (al_L_57.drop 1).isEmpty = true := by decide +kernel
theorem ck_L_b_58_0 : (al_L_58.drop 0).head?.all (fun alt => rf_run nm_cl nm_ct en_xs 8 xx_L kc_L cu_L po_L (some .boolean) 1 0 98 16364 (some mu_L_58) 5000 true 1252 alt) = true := by decide +kernel
theorem ck_L_c_58 : ∀ i, i < 1 → (al_L_58.drop i).head?.all (fun alt => rf_run nm_cl nm_ct en_xs 8 xx_L kc_L cu_L po_L (some .boolean) 1 0 98 16364 (some mu_L_58) 5000 true 1252 alt) = true
  | 0, _ => ck_L_b_58_0
  | i + 1, h => absurd h (by omega)
theorem ck_L_n_58 : (al_L_58.drop 1).isEmpty = true := by decide +kernel
theorem ck_L_b_59_0 : (al_L_59.drop 0).head?.all (fun alt => rf_run nm_cl nm_ct en_xs 8 xx_L kc_L cu_L po_L (some .boolean) 1 0 98 16364 (some mu_L_59) 5000 true 1256 alt) = true := by decide +kernel
theorem ck_L_c_59 : ∀ i, i < 1 → (al_L_59.drop i).head?.all (fun alt => rf_run nm_cl nm_ct en_xs 8 xx_L kc_L cu_L po_L (some .boolean) 1 0 98 16364 (some mu_L_59) 5000 true 1256 alt) = true
  | 0, _ => ck_L_b_59_0
  | i + 1, h => absurd h (by omega)
theorem ck_L_n_59 : (al_L_59.drop 1).isEmpty = true := by decide +kernel
theorem ck_L_b_60_0 : (al_L_60.drop 0).head?.all (fun alt => rf_run nm_cl nm_ct en_xs 8 xx_L kc_L cu_L po_L (some .boolean) 1 0 98 16364 (some mu_L_60) 5000 true 1329 alt) = true := by decide +kernel
theorem ck_L_c_60 : ∀ i, i < 1 → (al_L_60.drop i).head?.all (fun alt => rf_run nm_cl nm_ct en_xs 8 xx_L kc_L cu_L po_L (some .boolean) 1 0 98 16364 (some mu_L_60) 5000 true 1329 alt) = true
  | 0, _ => ck_L_b_60_0
  | i + 1, h => absurd h (by omega)
theorem ck_L_n_60 : (al_L_60.drop 1).isEmpty = true := by decide +kernel
theorem ck_L_b_61_0 : (al_L_61.drop 0).head?.all (fun alt => rf_run nm_cl nm_ct en_xs 8 xx_L kc_L cu_L po_L (some .boolean) 1 0 98 16364 (some mu_L_61) 5000 true 1362 alt) = true := by decide +kernel
theorem ck_L_c_61 : ∀ i, i < 1 → (al_L_61.drop i).head?.all (fun alt => rf_run nm_cl nm_ct en_xs 8 xx_L kc_L cu_L po_L (some .boolean) 1 0 98 16364 (some mu_L_61) 5000 true 1362 alt) = true
  | 0, _ => ck_L_b_61_0
  | i + 1, h => absurd h (by omega)
theorem ck_L_n_61 : (al_L_61.drop 1).isEmpty = true := by decide +kernel
theorem ck_L_b_62_0 : (al_L_62.drop 0).head?.all (fun alt => rf_run nm_cl nm_ct en_xs 8 xx_L kc_L cu_L po_L (some .boolean) 1 0 98 16364 (some mu_L_62) 5000 true 1425 alt) = true := by decide +kernel
theorem ck_L_c_62 : ∀ i, i < 1 → (al_L_62.drop i).head?.all (fun alt => rf_run nm_cl nm_ct en_xs 8 xx_L kc_L cu_L po_L (some .boolean) 1 0 98 16364 (some mu_L_62) 5000 true 1425 alt) = true
  | 0, _ => ck_L_b_62_0
  | i + 1, h => absurd h (by omega)
theorem ck_L_n_62 : (al_L_62.drop 1).isEmpty = true := by decide +kernel
theorem ck_L_b_63_0 : (al_L_63.drop 0).head?.all (fun alt => rf_run nm_cl nm_ct en_xs 8 xx_L kc_L cu_L po_L (some .boolean) 1 0 98 16364 (some mu_L_63) 5000 true 1458 alt) = true := by decide +kernel
theorem ck_L_c_63 : ∀ i, i < 1 → (al_L_63.drop i).head?.all (fun alt => rf_run nm_cl nm_ct en_xs 8 xx_L kc_L cu_L po_L (some .boolean) 1 0 98 16364 (some mu_L_63) 5000 true 1458 alt) = true
  | 0, _ => ck_L_b_63_0
  | i + 1, h => absurd h (by omega)
theorem ck_L_n_63 : (al_L_63.drop 1).isEmpty = true := by decide +kernel
