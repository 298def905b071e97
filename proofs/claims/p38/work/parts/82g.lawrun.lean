/-! the law: its checks -/
theorem ck_L_b_52_0 : (al_L_52.drop 0).head?.all (fun alt => rf_run nm_cl nm_ct en_xs 8 xx_L kc_L cu_L po_L (some .boolean) 1 0 98 16364 (some mu_L_52) 5000 true 1194 alt) = true := by decide +kernel
theorem ck_L_c_52 : ∀ i, i < 1 → (al_L_52.drop i).head?.all (fun alt => rf_run nm_cl nm_ct en_xs 8 xx_L kc_L cu_L po_L (some .boolean) 1 0 98 16364 (some mu_L_52) 5000 true 1194 alt) = true
  | 0, _ => ck_L_b_52_0
  | i + 1, h => absurd h (by omega)
theorem ck_L_n_52 : (al_L_52.drop 1).isEmpty = true := by decide +kernel
theorem ck_L_b_53_0 : (al_L_53.drop 0).head?.all (fun alt => rf_run nm_cl nm_ct en_xs 8 xx_L kc_L cu_L po_L (some .boolean) 1 0 98 16364 (some mu_L_53) 5000 true 1194 alt) = true := by decide +kernel
theorem ck_L_c_53 : ∀ i, i < 1 → (al_L_53.drop i).head?.all (fun alt => rf_run nm_cl nm_ct en_xs 8 xx_L kc_L cu_L po_L (some .boolean) 1 0 98 16364 (some mu_L_53) 5000 true 1194 alt) = true
  | 0, _ => ck_L_b_53_0
  | i + 1, h => absurd h (by omega)
theorem ck_L_n_53 : (al_L_53.drop 1).isEmpty = true := by decide +kernel
theorem ck_L_b_54_0 : (al_L_54.drop 0).head?.all (fun alt => rf_run nm_cl nm_ct en_xs 8 xx_L kc_L cu_L po_L (some .boolean) 1 0 98 16364 (some mu_L_54) 5000 true 1194 alt) = true := by decide +kernel
theorem ck_L_c_54 : ∀ i, i < 1 → (al_L_54.drop i).head?.all (fun alt => rf_run nm_cl nm_ct en_xs 8 xx_L kc_L cu_L po_L (some .boolean) 1 0 98 16364 (some mu_L_54) 5000 true 1194 alt) = true
  | 0, _ => ck_L_b_54_0
  | i + 1, h => absurd h (by omega)
theorem ck_L_n_54 : (al_L_54.drop 1).isEmpty = true := by decide +kernel
theorem ck_L_b_55_0 : (al_L_55.drop 0).head?.all (fun alt => rf_run nm_cl nm_ct en_xs 8 xx_L kc_L cu_L po_L (some .boolean) 1 0 98 16364 (some mu_L_55) 5000 true 1194 alt) = true := by decide +kernel
theorem ck_L_c_55 : ∀ i, i < 1 → (al_L_55.drop i).head?.all (fun alt => rf_run nm_cl nm_ct en_xs 8 xx_L kc_L cu_L po_L (some .boolean) 1 0 98 16364 (some mu_L_55) 5000 true 1194 alt) = true
  | 0, _ => ck_L_b_55_0
  | i + 1, h => absurd h (by omega)
theorem ck_L_n_55 : (al_L_55.drop 1).isEmpty = true := by decide +kernel
theorem ck_L_b_56_0 : (al_L_56.drop 0).head?.all (fun alt => rf_run nm_cl nm_ct en_xs 8 xx_L kc_L cu_L po_L (some .boolean) 1 0 98 16364 (some mu_L_56) 5000 true 1194 alt) = true := by decide +kernel
theorem ck_L_c_56 : ∀ i, i < 1 → (al_L_56.drop i).head?.all (fun alt => rf_run nm_cl nm_ct en_xs 8 xx_L kc_L cu_L po_L (some .boolean) 1 0 98 16364 (some mu_L_56) 5000 true 1194 alt) = true
  | 0, _ => ck_L_b_56_0
  | i + 1, h => absurd h (by omega)
theorem ck_L_n_56 : (al_L_56.drop 1).isEmpty = true := by decide +kernel
theorem ck_L_b_57_0 : (al_L_57.drop 0).head?.all (fun alt => rf_run nm_cl nm_ct en_xs 8 xx_L kc_L cu_L po_L (some .boolean) 1 0 98 16364 (some mu_L_57) 5000 true 1194 alt) = true := by decide +kernel
theorem ck_L_c_57 : ∀ i, i < 1 → (al_L_57.drop i).head?.all (fun alt => rf_run nm_cl nm_ct en_xs 8 xx_L kc_L cu_L po_L (some .boolean) 1 0 98 16364 (some mu_L_57) 5000 true 1194 alt) = true
  | 0, _ => ck_L_b_57_0
  | i + 1, h => absurd h (by omega)
theorem ck_L_n_57 : (al_L_57.drop 1).isEmpty = true := by decide +kernel
theorem ck_L_b_58_0 : (al_L_58.drop 0).head?.all (fun alt => rf_run nm_cl nm_ct en_xs 8 xx_L kc_L cu_L po_L (some .boolean) 1 0 98 16364 (some mu_L_58) 5000 true 1194 alt) = true := by decide +kernel
theorem ck_L_c_58 : ∀ i, i < 1 → (al_L_58.drop i).head?.all (fun alt => rf_run nm_cl nm_ct en_xs 8 xx_L kc_L cu_L po_L (some .boolean) 1 0 98 16364 (some mu_L_58) 5000 true 1194 alt) = true
  | 0, _ => ck_L_b_58_0
  | i + 1, h => absurd h (by omega)
theorem ck_L_n_58 : (al_L_58.drop 1).isEmpty = true := by decide +kernel
theorem ck_L_b_59_0 : (al_L_59.drop 0).head?.all (fun alt => rf_run nm_cl nm_ct en_xs 8 xx_L kc_L cu_L po_L (some .boolean) 1 0 98 16364 (some mu_L_59) 5000 true 1194 alt) = true := by decide +kernel
theorem ck_L_c_59 : ∀ i, i < 1 → (al_L_59.drop i).head?.all (fun alt => rf_run nm_cl nm_ct en_xs 8 xx_L kc_L cu_L po_L (some .boolean) 1 0 98 16364 (some mu_L_59) 5000 true 1194 alt) = true
  | 0, _ => ck_L_b_59_0
  | i + 1, h => absurd h (by omega)
theorem ck_L_n_59 : (al_L_59.drop 1).isEmpty = true := by decide +kernel
theorem ck_L_b_60_0 : (al_L_60.drop 0).head?.all (fun alt => rf_run nm_cl nm_ct en_xs 8 xx_L kc_L cu_L po_L (some .boolean) 1 0 98 16364 (some mu_L_60) 5000 true 1194 alt) = true := by decide +kernel
theorem ck_L_c_60 : ∀ i, i < 1 → (al_L_60.drop i).head?.all (fun alt => rf_run nm_cl nm_ct en_xs 8 xx_L kc_L cu_L po_L (some .boolean) 1 0 98 16364 (some mu_L_60) 5000 true 1194 alt) = true
  | 0, _ => ck_L_b_60_0
  | i + 1, h => absurd h (by omega)
theorem ck_L_n_60 : (al_L_60.drop 1).isEmpty = true := by decide +kernel
theorem ck_L_b_61_0 : (al_L_61.drop 0).head?.all (fun alt => rf_run nm_cl nm_ct en_xs 8 xx_L kc_L cu_L po_L (some .boolean) 1 0 98 16364 (some mu_L_61) 5000 true 1194 alt) = true := by decide +kernel
theorem ck_L_c_61 : ∀ i, i < 1 → (al_L_61.drop i).head?.all (fun alt => rf_run nm_cl nm_ct en_xs 8 xx_L kc_L cu_L po_L (some .boolean) 1 0 98 16364 (some mu_L_61) 5000 true 1194 alt) = true
  | 0, _ => ck_L_b_61_0
  | i + 1, h => absurd h (by omega)
theorem ck_L_n_61 : (al_L_61.drop 1).isEmpty = true := by decide +kernel
theorem ck_L_b_62_0 : (al_L_62.drop 0).head?.all (fun alt => rf_run nm_cl nm_ct en_xs 8 xx_L kc_L cu_L po_L (some .boolean) 1 0 98 16364 (some mu_L_62) 5000 true 1209 alt) = true := by decide +kernel
theorem ck_L_c_62 : ∀ i, i < 1 → (al_L_62.drop i).head?.all (fun alt => rf_run nm_cl nm_ct en_xs 8 xx_L kc_L cu_L po_L (some .boolean) 1 0 98 16364 (some mu_L_62) 5000 true 1209 alt) = true
  | 0, _ => ck_L_b_62_0
  | i + 1, h => absurd h (by omega)
theorem ck_L_n_62 : (al_L_62.drop 1).isEmpty = true := by decide +kernel
theorem ck_L_b_63_0 : (al_L_63.drop 0).head?.all (fun alt => rf_run nm_cl nm_ct en_xs 8 xx_L kc_L cu_L po_L (some .boolean) 1 0 98 16364 (some mu_L_63) 5000 true 1209 alt) = true := by decide +kernel
theorem ck_L_c_63 : ∀ i, i < 1 → (al_L_63.drop i).head?.all (fun alt => rf_run nm_cl nm_ct en_xs 8 xx_L kc_L cu_L po_L (some .boolean) 1 0 98 16364 (some mu_L_63) 5000 true 1209 alt) = true
  | 0, _ => ck_L_b_63_0
  | i + 1, h => absurd h (by omega)
theorem ck_L_n_63 : (al_L_63.drop 1).isEmpty = true := by decide +kernel
