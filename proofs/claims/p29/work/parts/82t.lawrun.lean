/-! the law: its checks -/
theorem ck_L_b_473_0 : (al_L_473.drop 0).head?.all (fun alt => rf_run nm_cl nm_ct en_xs 8 xx_L kc_L cu_L po_L (some .boolean) 1 0 98 16364 (some mu_L_473) 5000 true 1421 alt) = true := by decide +kernel
theorem ck_L_c_473 : ∀ i, i < 1 → (al_L_473.drop i).head?.all (fun alt => rf_run nm_cl nm_ct en_xs 8 xx_L kc_L cu_L po_L (some .boolean) 1 0 98 16364 (some mu_L_473) 5000 true 1421 alt) = true
  | 0, _ => ck_L_b_473_0
  | i + 1, h => absurd h (by omega)
theorem ck_L_n_473 : (al_L_473.drop 1).isEmpty = true := by decide +kernel
theorem ck_L_b_474_0 : (al_L_474.drop 0).head?.all (fun alt => rf_run nm_cl nm_ct en_xs 8 xx_L kc_L cu_L po_L (some .boolean) 1 0 98 16364 (some mu_L_474) 5000 true 1421 alt) = true := by decide +kernel
theorem ck_L_c_474 : ∀ i, i < 1 → (al_L_474.drop i).head?.all (fun alt => rf_run nm_cl nm_ct en_xs 8 xx_L kc_L cu_L po_L (some .boolean) 1 0 98 16364 (some mu_L_474) 5000 true 1421 alt) = true
  | 0, _ => ck_L_b_474_0
  | i + 1, h => absurd h (by omega)
theorem ck_L_n_474 : (al_L_474.drop 1).isEmpty = true := by decide +kernel
theorem ck_L_b_475_0 : (al_L_475.drop 0).head?.all (fun alt => rf_run nm_cl nm_ct en_xs 8 xx_L kc_L cu_L po_L (some .boolean) 1 0 98 16364 (some mu_L_475) 5000 true 1421 alt) = true := by decide +kernel
theorem ck_L_c_475 : ∀ i, i < 1 → (al_L_475.drop i).head?.all (fun alt => rf_run nm_cl nm_ct en_xs 8 xx_L kc_L cu_L po_L (some .boolean) 1 0 98 16364 (some mu_L_475) 5000 true 1421 alt) = true
  | 0, _ => ck_L_b_475_0
  | i + 1, h => absurd h (by omega)
theorem ck_L_n_475 : (al_L_475.drop 1).isEmpty = true := by decide +kernel
theorem ck_L_b_476_0 : (al_L_476.drop 0).head?.all (fun alt => rf_run nm_cl nm_ct en_xs 8 xx_L kc_L cu_L po_L (some .boolean) 1 0 98 16364 (some mu_L_476) 5000 true 1421 alt) = true := by decide +kernel
theorem ck_L_c_476 : ∀ i, i < 1 → (al_L_476.drop i).head?.all (fun alt => rf_run nm_cl nm_ct en_xs 8 xx_L kc_L cu_L po_L (some .boolean) 1 0 98 16364 (some mu_L_476) 5000 true 1421 alt) = true
  | 0, _ => ck_L_b_476_0
  | i + 1, h => absurd h (by omega)
theorem ck_L_n_476 : (al_L_476.drop 1).isEmpty = true := by decide +kernel
theorem ck_L_b_477_0 : (al_L_477.drop 0).head?.all (fun alt => rf_run nm_cl nm_ct en_xs 8 xx_L kc_L cu_L po_L (some .boolean) 1 0 98 16364 (some mu_L_477) 5000 true 1425 alt) = true := by decide +kernel
theorem ck_L_c_477 : ∀ i, i < 1 → (al_L_477.drop i).head?.all (fun alt => rf_run nm_cl nm_ct en_xs 8 xx_L kc_L cu_L po_L (some .boolean) 1 0 98 16364 (some mu_L_477) 5000 true 1425 alt) = true
  | 0, _ => ck_L_b_477_0
  | i + 1, h => absurd h (by omega)
theorem ck_L_n_477 : (al_L_477.drop 1).isEmpty = true := by decide +kernel
theorem ck_L_b_478_0 : (al_L_478.drop 0).head?.all (fun alt => rf_run nm_cl nm_ct en_xs 8 xx_L kc_L cu_L po_L (some .boolean) 1 0 98 16364 (some mu_L_478) 5000 true 1458 alt) = true := by decide +kernel
theorem ck_L_c_478 : ∀ i, i < 1 → (al_L_478.drop i).head?.all (fun alt => rf_run nm_cl nm_ct en_xs 8 xx_L kc_L cu_L po_L (some .boolean) 1 0 98 16364 (some mu_L_478) 5000 true 1458 alt) = true
  | 0, _ => ck_L_b_478_0
  | i + 1, h => absurd h (by omega)
theorem ck_L_n_478 : (al_L_478.drop 1).isEmpty = true := by decide +kernel
