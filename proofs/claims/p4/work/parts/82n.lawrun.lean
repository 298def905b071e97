/-! the law: its checks -/
theorem ck_L_b_389_0 : (al_L_389.drop 0).head?.all (fun alt => rf_run nm_cl nm_ct en_xs 8 xx_L kc_L cu_L po_L (some .boolean) 1 0 98 16364 (some mu_L_389) 5000 true 1421 alt) = true := by decide +kernel
theorem ck_L_c_389 : ∀ i, i < 1 → (al_L_389.drop i).head?.all (fun alt => rf_run nm_cl nm_ct en_xs 8 xx_L kc_L cu_L po_L (some .boolean) 1 0 98 16364 (some mu_L_389) 5000 true 1421 alt) = true
  | 0, _ => ck_L_b_389_0
  | i + 1, h => absurd h (by omega)
theorem ck_L_n_389 : (al_L_389.drop 1).isEmpty = true := by decide +kernel
theorem ck_L_c_390 : ∀ i, i < 0 → (al_L_390.drop i).head?.all (fun alt => rf_run nm_cl nm_ct en_xs 8 xx_L kc_L cu_L po_L (some .boolean) 1 0 98 16364 (some mu_L_390) 5000 true 1421 alt) = true
  | i + 0, h => absurd h (by omega)
theorem ck_L_n_390 : (al_L_390.drop 0).isEmpty = true := by decide +kernel
theorem ck_L_c_391 : ∀ i, i < 0 → (al_L_391.drop i).head?.all (fun alt => rf_run nm_cl nm_ct en_xs 8 xx_L kc_L cu_L po_L (some .boolean) 1 0 98 16364 (some mu_L_391) 5000 true 1421 alt) = true
  | i + 0, h => absurd h (by omega)
theorem ck_L_n_391 : (al_L_391.drop 0).isEmpty = true := by decide +kernel
theorem ck_L_c_392 : ∀ i, i < 0 → (al_L_392.drop i).head?.all (fun alt => rf_run nm_cl nm_ct en_xs 8 xx_L kc_L cu_L po_L (some .boolean) 1 0 98 16364 (some mu_L_392) 5000 true 1421 alt) = true
  | i + 0, h => absurd h (by omega)
theorem ck_L_n_392 : (al_L_392.drop 0).isEmpty = true := by decide +kernel
theorem ck_L_c_393 : ∀ i, i < 0 → (al_L_393.drop i).head?.all (fun alt => rf_run nm_cl nm_ct en_xs 8 xx_L kc_L cu_L po_L (some .boolean) 1 0 98 16364 (some mu_L_393) 5000 true 1421 alt) = true
  | i + 0, h => absurd h (by omega)
theorem ck_L_n_393 : (al_L_393.drop 0).isEmpty = true := by decide +kernel
theorem ck_L_c_394 : ∀ i, i < 0 → (al_L_394.drop i).head?.all (fun alt => rf_run nm_cl nm_ct en_xs 8 xx_L kc_L cu_L po_L (some .boolean) 1 0 98 16364 (some mu_L_394) 5000 true 1421 alt) = true
  | i + 0, h => absurd h (by omega)
theorem ck_L_n_394 : (al_L_394.drop 0).isEmpty = true := by decide +kernel
theorem ck_L_c_395 : ∀ i, i < 0 → (al_L_395.drop i).head?.all (fun alt => rf_run nm_cl nm_ct en_xs 8 xx_L kc_L cu_L po_L (some .boolean) 1 0 98 16364 (some mu_L_395) 5000 true 1421 alt) = true
  | i + 0, h => absurd h (by omega)
theorem ck_L_n_395 : (al_L_395.drop 0).isEmpty = true := by decide +kernel
theorem ck_L_c_396 : ∀ i, i < 0 → (al_L_396.drop i).head?.all (fun alt => rf_run nm_cl nm_ct en_xs 8 xx_L kc_L cu_L po_L (some .boolean) 1 0 98 16364 (some mu_L_396) 5000 true 1421 alt) = true
  | i + 0, h => absurd h (by omega)
theorem ck_L_n_396 : (al_L_396.drop 0).isEmpty = true := by decide +kernel
theorem ck_L_c_397 : ∀ i, i < 0 → (al_L_397.drop i).head?.all (fun alt => rf_run nm_cl nm_ct en_xs 8 xx_L kc_L cu_L po_L (some .boolean) 1 0 98 16364 (some mu_L_397) 5000 true 1421 alt) = true
  | i + 0, h => absurd h (by omega)
theorem ck_L_n_397 : (al_L_397.drop 0).isEmpty = true := by decide +kernel
theorem ck_L_c_398 : ∀ i, i < 0 → (al_L_398.drop i).head?.all (fun alt => rf_run nm_cl nm_ct en_xs 8 xx_L kc_L cu_L po_L (some .boolean) 1 0 98 16364 (some mu_L_398) 5000 true 1421 alt) = true
  | i + 0, h => absurd h (by omega)
theorem ck_L_n_398 : (al_L_398.drop 0).isEmpty = true := by decide +kernel
theorem ck_L_c_399 : ∀ i, i < 0 → (al_L_399.drop i).head?.all (fun alt => rf_run nm_cl nm_ct en_xs 8 xx_L kc_L cu_L po_L (some .boolean) 1 0 98 16364 (some mu_L_399) 5000 true 1421 alt) = true
  | i + 0, h => absurd h (by omega)
theorem ck_L_n_399 : (al_L_399.drop 0).isEmpty = true := by decide +kernel
theorem ck_L_c_400 : ∀ i, i < 0 → (al_L_400.drop i).head?.all (fun alt => rf_run nm_cl nm_ct en_xs 8 xx_L kc_L cu_L po_L (some .boolean) 1 0 98 16364 (some mu_L_400) 5000 true 1421 alt) = true
  | i + 0, h => absurd h (by omega)
theorem ck_L_n_400 : (al_L_400.drop 0).isEmpty = true := by decide +kernel
theorem ck_L_c_401 : ∀ i, i < 0 → (al_L_401.drop i).head?.all (fun alt => rf_run nm_cl nm_ct en_xs 8 xx_L kc_L cu_L po_L (some .boolean) 1 0 98 16364 (some mu_L_401) 5000 true 1421 alt) = true
  | i + 0, h => absurd h (by omega)
theorem ck_L_n_401 : (al_L_401.drop 0).isEmpty = true := by decide +kernel
theorem ck_L_b_402_0 : (al_L_402.drop 0).head?.all (fun alt => rf_run nm_cl nm_ct en_xs 8 xx_L kc_L cu_L po_L (some .boolean) 1 0 98 16364 (some mu_L_402) 5000 true 1421 alt) = true := by decide +kernel
theorem ck_L_c_402 : ∀ i, i < 1 → (al_L_402.drop i).head?.all (fun alt => rf_run nm_cl nm_ct en_xs 8 xx_L kc_L cu_L po_L (some .boolean) 1 0 98 16364 (some mu_L_402) 5000 true 1421 alt) = true
  | 0, _ => ck_L_b_402_0
  | i + 1, h => absurd h (by omega)
theorem ck_L_n_402 : (al_L_402.drop 1).isEmpty = true := by decide +kernel
theorem ck_L_b_403_0 : (al_L_403.drop 0).head?.all (fun alt => rf_run nm_cl nm_ct en_xs 8 xx_L kc_L cu_L po_L (some .boolean) 1 0 98 16364 (some mu_L_403) 5000 true 1421 alt) = true := by decide +kernel
theorem ck_L_c_403 : ∀ i, i < 1 → (al_L_403.drop i).head?.all (fun alt => rf_run nm_cl nm_ct en_xs 8 xx_L kc_L cu_L po_L (some .boolean) 1 0 98 16364 (some mu_L_403) 5000 true 1421 alt) = true
  | 0, _ => ck_L_b_403_0
  | i + 1, h => absurd h (by omega)
theorem ck_L_n_403 : (al_L_403.drop 1).isEmpty = true := by decide +kernel
theorem ck_L_b_404_0 : (al_L_404.drop 0).head?.all (fun alt => rf_run nm_cl nm_ct en_xs 8 xx_L kc_L cu_L po_L (some .boolean) 1 0 98 16364 (some mu_L_404) 5000 true 1421 alt) = true := by decide +kernel
theorem ck_L_c_404 : ∀ i, i < 1 → (al_L_404.drop i).head?.all (fun alt => rf_run nm_cl nm_ct en_xs 8 xx_L kc_L cu_L po_L (some .boolean) 1 0 98 16364 (some mu_L_404) 5000 true 1421 alt) = true
  | 0, _ => ck_L_b_404_0
  | i + 1, h => absurd h (by omega)
theorem ck_L_n_404 : (al_L_404.drop 1).isEmpty = true := by decide +kernel
theorem ck_L_b_405_0 : (al_L_405.drop 0).head?.all (fun alt => rf_run nm_cl nm_ct en_xs 8 xx_L kc_L cu_L po_L (some .boolean) 1 0 98 16364 (some mu_L_405) 5000 true 1421 alt) = true := by decide +kernel
theorem ck_L_c_405 : ∀ i, i < 1 → (al_L_405.drop i).head?.all (fun alt => rf_run nm_cl nm_ct en_xs 8 xx_L kc_L cu_L po_L (some .boolean) 1 0 98 16364 (some mu_L_405) 5000 true 1421 alt) = true
  | 0, _ => ck_L_b_405_0
  | i + 1, h => absurd h (by omega)
theorem ck_L_n_405 : (al_L_405.drop 1).isEmpty = true := by decide +kernel
theorem ck_L_b_406_0 : (al_L_406.drop 0).head?.all (fun alt => rf_run nm_cl nm_ct en_xs 8 xx_L kc_L cu_L po_L (some .boolean) 1 0 98 16364 (some mu_L_406) 5000 true 1421 alt) = true := by decide +kernel
theorem ck_L_c_406 : ∀ i, i < 1 → (al_L_406.drop i).head?.all (fun alt => rf_run nm_cl nm_ct en_xs 8 xx_L kc_L cu_L po_L (some .boolean) 1 0 98 16364 (some mu_L_406) 5000 true 1421 alt) = true
  | 0, _ => ck_L_b_406_0
  | i + 1, h => absurd h (by omega)
theorem ck_L_n_406 : (al_L_406.drop 1).isEmpty = true := by decide +kernel
theorem ck_L_b_407_0 : (al_L_407.drop 0).head?.all (fun alt => rf_run nm_cl nm_ct en_xs 8 xx_L kc_L cu_L po_L (some .boolean) 1 0 98 16364 (some mu_L_407) 5000 true 1425 alt) = true := by decide +kernel
theorem ck_L_c_407 : ∀ i, i < 1 → (al_L_407.drop i).head?.all (fun alt => rf_run nm_cl nm_ct en_xs 8 xx_L kc_L cu_L po_L (some .boolean) 1 0 98 16364 (some mu_L_407) 5000 true 1425 alt) = true
  | 0, _ => ck_L_b_407_0
  | i + 1, h => absurd h (by omega)
theorem ck_L_n_407 : (al_L_407.drop 1).isEmpty = true := by decide +kernel
theorem ck_L_b_408_0 : (al_L_408.drop 0).head?.all (fun alt => rf_run nm_cl nm_ct en_xs 8 xx_L kc_L cu_L po_L (some .boolean) 1 0 98 16364 (some mu_L_408) 5000 true 1458 alt) = true := by decide +kernel
theorem ck_L_c_408 : ∀ i, i < 1 → (al_L_408.drop i).head?.all (fun alt => rf_run nm_cl nm_ct en_xs 8 xx_L kc_L cu_L po_L (some .boolean) 1 0 98 16364 (some mu_L_408) 5000 true 1458 alt) = true
  | 0, _ => ck_L_b_408_0
  | i + 1, h => absurd h (by omega)
theorem ck_L_n_408 : (al_L_408.drop 1).isEmpty = true := by decide +kernel
