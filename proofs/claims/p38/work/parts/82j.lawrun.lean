/-! the law: its checks -/
theorem ck_L_b_81_0 : (al_L_81.drop 0).head?.all (fun alt => rf_run nm_cl nm_ct en_xs 8 xx_L kc_L cu_L po_L (some .boolean) 1 0 98 16364 (some mu_L_81) 5000 true 1252 alt) = true := by decide +kernel
theorem ck_L_c_81 : ∀ i, i < 1 → (al_L_81.drop i).head?.all (fun alt => rf_run nm_cl nm_ct en_xs 8 xx_L kc_L cu_L po_L (some .boolean) 1 0 98 16364 (some mu_L_81) 5000 true 1252 alt) = true
  | 0, _ => ck_L_b_81_0
  | i + 1, h => absurd h (by omega)
theorem ck_L_n_81 : (al_L_81.drop 1).isEmpty = true := by decide +kernel
theorem ck_L_b_82_0 : (al_L_82.drop 0).head?.all (fun alt => rf_run nm_cl nm_ct en_xs 8 xx_L kc_L cu_L po_L (some .boolean) 1 0 98 16364 (some mu_L_82) 5000 true 1252 alt) = true := by decide +kernel
theorem ck_L_c_82 : ∀ i, i < 1 → (al_L_82.drop i).head?.all (fun alt => rf_run nm_cl nm_ct en_xs 8 xx_L kc_L cu_L po_L (some .boolean) 1 0 98 16364 (some mu_L_82) 5000 true 1252 alt) = true
  | 0, _ => ck_L_b_82_0
  | i + 1, h => absurd h (by omega)
theorem ck_L_n_82 : (al_L_82.drop 1).isEmpty = true := by decide +kernel
theorem ck_L_b_83_0 : (al_L_83.drop 0).head?.all (fun alt => rf_run nm_cl nm_ct en_xs 8 xx_L kc_L cu_L po_L (some .boolean) 1 0 98 16364 (some mu_L_83) 5000 true 1252 alt) = true := by decide +kernel
theorem ck_L_c_83 : ∀ i, i < 1 → (al_L_83.drop i).head?.all (fun alt => rf_run nm_cl nm_ct en_xs 8 xx_L kc_L cu_L po_L (some .boolean) 1 0 98 16364 (some mu_L_83) 5000 true 1252 alt) = true
  | 0, _ => ck_L_b_83_0
  | i + 1, h => absurd h (by omega)
theorem ck_L_n_83 : (al_L_83.drop 1).isEmpty = true := by decide +kernel
theorem ck_L_b_84_0 : (al_L_84.drop 0).head?.all (fun alt => rf_run nm_cl nm_ct en_xs 8 xx_L kc_L cu_L po_L (some .boolean) 1 0 98 16364 (some mu_L_84) 5000 true 1252 alt) = true := by decide +kernel
theorem ck_L_c_84 : ∀ i, i < 1 → (al_L_84.drop i).head?.all (fun alt => rf_run nm_cl nm_ct en_xs 8 xx_L kc_L cu_L po_L (some .boolean) 1 0 98 16364 (some mu_L_84) 5000 true 1252 alt) = true
  | 0, _ => ck_L_b_84_0
  | i + 1, h => absurd h (by omega)
theorem ck_L_n_84 : (al_L_84.drop 1).isEmpty = true := by decide +kernel
theorem ck_L_b_85_0 : (al_L_85.drop 0).head?.all (fun alt => rf_run nm_cl nm_ct en_xs 8 xx_L kc_L cu_L po_L (some .boolean) 1 0 98 16364 (some mu_L_85) 5000 true 1256 alt) = true := by decide +kernel
theorem ck_L_c_85 : ∀ i, i < 1 → (al_L_85.drop i).head?.all (fun alt => rf_run nm_cl nm_ct en_xs 8 xx_L kc_L cu_L po_L (some .boolean) 1 0 98 16364 (some mu_L_85) 5000 true 1256 alt) = true
  | 0, _ => ck_L_b_85_0
  | i + 1, h => absurd h (by omega)
theorem ck_L_n_85 : (al_L_85.drop 1).isEmpty = true := by decide +kernel
theorem ck_L_b_86_0 : (al_L_86.drop 0).head?.all (fun alt => rf_run nm_cl nm_ct en_xs 8 xx_L kc_L cu_L po_L (some .boolean) 1 0 98 16364 (some mu_L_86) 5000 true 1290 alt) = true := by decide +kernel
theorem ck_L_c_86 : ∀ i, i < 1 → (al_L_86.drop i).head?.all (fun alt => rf_run nm_cl nm_ct en_xs 8 xx_L kc_L cu_L po_L (some .boolean) 1 0 98 16364 (some mu_L_86) 5000 true 1290 alt) = true
  | 0, _ => ck_L_b_86_0
  | i + 1, h => absurd h (by omega)
theorem ck_L_n_86 : (al_L_86.drop 1).isEmpty = true := by decide +kernel
theorem ck_L_b_87_0 : (al_L_87.drop 0).head?.all (fun alt => rf_run nm_cl nm_ct en_xs 8 xx_L kc_L cu_L po_L (some .boolean) 1 0 98 16364 (some mu_L_87) 5000 true 1290 alt) = true := by decide +kernel
theorem ck_L_c_87 : ∀ i, i < 1 → (al_L_87.drop i).head?.all (fun alt => rf_run nm_cl nm_ct en_xs 8 xx_L kc_L cu_L po_L (some .boolean) 1 0 98 16364 (some mu_L_87) 5000 true 1290 alt) = true
  | 0, _ => ck_L_b_87_0
  | i + 1, h => absurd h (by omega)
theorem ck_L_n_87 : (al_L_87.drop 1).isEmpty = true := by decide +kernel
theorem ck_L_b_88_0 : (al_L_88.drop 0).head?.all (fun alt => rf_run nm_cl nm_ct en_xs 8 xx_L kc_L cu_L po_L (some .boolean) 1 0 98 16364 (some mu_L_88) 5000 true 1290 alt) = true := by decide +kernel
theorem ck_L_c_88 : ∀ i, i < 1 → (al_L_88.drop i).head?.all (fun alt => rf_run nm_cl nm_ct en_xs 8 xx_L kc_L cu_L po_L (some .boolean) 1 0 98 16364 (some mu_L_88) 5000 true 1290 alt) = true
  | 0, _ => ck_L_b_88_0
  | i + 1, h => absurd h (by omega)
theorem ck_L_n_88 : (al_L_88.drop 1).isEmpty = true := by decide +kernel
theorem ck_L_b_89_0 : (al_L_89.drop 0).head?.all (fun alt => rf_run nm_cl nm_ct en_xs 8 xx_L kc_L cu_L po_L (some .boolean) 1 0 98 16364 (some mu_L_89) 5000 true 1290 alt) = true := by decide +kernel
theorem ck_L_c_89 : ∀ i, i < 1 → (al_L_89.drop i).head?.all (fun alt => rf_run nm_cl nm_ct en_xs 8 xx_L kc_L cu_L po_L (some .boolean) 1 0 98 16364 (some mu_L_89) 5000 true 1290 alt) = true
  | 0, _ => ck_L_b_89_0
  | i + 1, h => absurd h (by omega)
theorem ck_L_n_89 : (al_L_89.drop 1).isEmpty = true := by decide +kernel
theorem ck_L_b_90_0 : (al_L_90.drop 0).head?.all (fun alt => rf_run nm_cl nm_ct en_xs 8 xx_L kc_L cu_L po_L (some .boolean) 1 0 98 16364 (some mu_L_90) 5000 true 1290 alt) = true := by decide +kernel
theorem ck_L_c_90 : ∀ i, i < 1 → (al_L_90.drop i).head?.all (fun alt => rf_run nm_cl nm_ct en_xs 8 xx_L kc_L cu_L po_L (some .boolean) 1 0 98 16364 (some mu_L_90) 5000 true 1290 alt) = true
  | 0, _ => ck_L_b_90_0
  | i + 1, h => absurd h (by omega)
theorem ck_L_n_90 : (al_L_90.drop 1).isEmpty = true := by decide +kernel
theorem ck_L_b_91_0 : (al_L_91.drop 0).head?.all (fun alt => rf_run nm_cl nm_ct en_xs 8 xx_L kc_L cu_L po_L (some .boolean) 1 0 98 16364 (some mu_L_91) 5000 true 1290 alt) = true := by decide +kernel
theorem ck_L_c_91 : ∀ i, i < 1 → (al_L_91.drop i).head?.all (fun alt => rf_run nm_cl nm_ct en_xs 8 xx_L kc_L cu_L po_L (some .boolean) 1 0 98 16364 (some mu_L_91) 5000 true 1290 alt) = true
  | 0, _ => ck_L_b_91_0
  | i + 1, h => absurd h (by omega)
theorem ck_L_n_91 : (al_L_91.drop 1).isEmpty = true := by decide +kernel
theorem ck_L_b_92_0 : (al_L_92.drop 0).head?.all (fun alt => rf_run nm_cl nm_ct en_xs 8 xx_L kc_L cu_L po_L (some .boolean) 1 0 98 16364 (some mu_L_92) 5000 true 1290 alt) = true := by decide +kernel
theorem ck_L_c_92 : ∀ i, i < 1 → (al_L_92.drop i).head?.all (fun alt => rf_run nm_cl nm_ct en_xs 8 xx_L kc_L cu_L po_L (some .boolean) 1 0 98 16364 (some mu_L_92) 5000 true 1290 alt) = true
  | 0, _ => ck_L_b_92_0
  | i + 1, h => absurd h (by omega)
theorem ck_L_n_92 : (al_L_92.drop 1).isEmpty = true := by decide +kernel
