/-! the law: its checks -/
theorem ck_L_b_126_0 : (al_L_126.drop 0).head?.all (fun alt => rf_run nm_cl nm_ct en_xs 8 xx_L kc_L cu_L po_L (some .boolean) 1 0 98 16364 (some mu_L_126) 5000 true 1194 alt) = true := by decide +kernel
theorem ck_L_c_126 : ∀ i, i < 1 → (al_L_126.drop i).head?.all (fun alt => rf_run nm_cl nm_ct en_xs 8 xx_L kc_L cu_L po_L (some .boolean) 1 0 98 16364 (some mu_L_126) 5000 true 1194 alt) = true
  | 0, _ => ck_L_b_126_0
  | i + 1, h => absurd h (by omega)
theorem ck_L_n_126 : (al_L_126.drop 1).isEmpty = true := by decide +kernel
theorem ck_L_b_127_0 : (al_L_127.drop 0).head?.all (fun alt => rf_run nm_cl nm_ct en_xs 8 xx_L kc_L cu_L po_L (some .boolean) 1 0 98 16364 (some mu_L_127) 5000 true 1194 alt) = true := by decide +kernel
theorem ck_L_c_127 : ∀ i, i < 1 → (al_L_127.drop i).head?.all (fun alt => rf_run nm_cl nm_ct en_xs 8 xx_L kc_L cu_L po_L (some .boolean) 1 0 98 16364 (some mu_L_127) 5000 true 1194 alt) = true
  | 0, _ => ck_L_b_127_0
  | i + 1, h => absurd h (by omega)
theorem ck_L_n_127 : (al_L_127.drop 1).isEmpty = true := by decide +kernel
theorem ck_L_b_128_0 : (al_L_128.drop 0).head?.all (fun alt => rf_run nm_cl nm_ct en_xs 8 xx_L kc_L cu_L po_L (some .boolean) 1 0 98 16364 (some mu_L_128) 5000 true 1194 alt) = true := by decide +kernel
theorem ck_L_c_128 : ∀ i, i < 1 → (al_L_128.drop i).head?.all (fun alt => rf_run nm_cl nm_ct en_xs 8 xx_L kc_L cu_L po_L (some .boolean) 1 0 98 16364 (some mu_L_128) 5000 true 1194 alt) = true
  | 0, _ => ck_L_b_128_0
  | i + 1, h => absurd h (by omega)
theorem ck_L_n_128 : (al_L_128.drop 1).isEmpty = true := by decide +kernel
theorem ck_L_b_129_0 : (al_L_129.drop 0).head?.all (fun alt => rf_run nm_cl nm_ct en_xs 8 xx_L kc_L cu_L po_L (some .boolean) 1 0 98 16364 (some mu_L_129) 5000 true 1194 alt) = true := by decide +kernel
theorem ck_L_c_129 : ∀ i, i < 1 → (al_L_129.drop i).head?.all (fun alt => rf_run nm_cl nm_ct en_xs 8 xx_L kc_L cu_L po_L (some .boolean) 1 0 98 16364 (some mu_L_129) 5000 true 1194 alt) = true
  | 0, _ => ck_L_b_129_0
  | i + 1, h => absurd h (by omega)
theorem ck_L_n_129 : (al_L_129.drop 1).isEmpty = true := by decide +kernel
theorem ck_L_b_130_0 : (al_L_130.drop 0).head?.all (fun alt => rf_run nm_cl nm_ct en_xs 8 xx_L kc_L cu_L po_L (some .boolean) 1 0 98 16364 (some mu_L_130) 5000 true 1194 alt) = true := by decide +kernel
theorem ck_L_c_130 : ∀ i, i < 1 → (al_L_130.drop i).head?.all (fun alt => rf_run nm_cl nm_ct en_xs 8 xx_L kc_L cu_L po_L (some .boolean) 1 0 98 16364 (some mu_L_130) 5000 true 1194 alt) = true
  | 0, _ => ck_L_b_130_0
  | i + 1, h => absurd h (by omega)
theorem ck_L_n_130 : (al_L_130.drop 1).isEmpty = true := by decide +kernel
theorem ck_L_b_131_0 : (al_L_131.drop 0).head?.all (fun alt => rf_run nm_cl nm_ct en_xs 8 xx_L kc_L cu_L po_L (some .boolean) 1 0 98 16364 (some mu_L_131) 5000 true 1194 alt) = true := by decide +kernel
theorem ck_L_c_131 : ∀ i, i < 1 → (al_L_131.drop i).head?.all (fun alt => rf_run nm_cl nm_ct en_xs 8 xx_L kc_L cu_L po_L (some .boolean) 1 0 98 16364 (some mu_L_131) 5000 true 1194 alt) = true
  | 0, _ => ck_L_b_131_0
  | i + 1, h => absurd h (by omega)
theorem ck_L_n_131 : (al_L_131.drop 1).isEmpty = true := by decide +kernel
theorem ck_L_b_132_0 : (al_L_132.drop 0).head?.all (fun alt => rf_run nm_cl nm_ct en_xs 8 xx_L kc_L cu_L po_L (some .boolean) 1 0 98 16364 (some mu_L_132) 5000 true 1194 alt) = true := by decide +kernel
theorem ck_L_c_132 : ∀ i, i < 1 → (al_L_132.drop i).head?.all (fun alt => rf_run nm_cl nm_ct en_xs 8 xx_L kc_L cu_L po_L (some .boolean) 1 0 98 16364 (some mu_L_132) 5000 true 1194 alt) = true
  | 0, _ => ck_L_b_132_0
  | i + 1, h => absurd h (by omega)
theorem ck_L_n_132 : (al_L_132.drop 1).isEmpty = true := by decide +kernel
theorem ck_L_b_133_0 : (al_L_133.drop 0).head?.all (fun alt => rf_run nm_cl nm_ct en_xs 8 xx_L kc_L cu_L po_L (some .boolean) 1 0 98 16364 (some mu_L_133) 5000 true 1209 alt) = true := by decide +kernel
theorem ck_L_c_133 : ∀ i, i < 1 → (al_L_133.drop i).head?.all (fun alt => rf_run nm_cl nm_ct en_xs 8 xx_L kc_L cu_L po_L (some .boolean) 1 0 98 16364 (some mu_L_133) 5000 true 1209 alt) = true
  | 0, _ => ck_L_b_133_0
  | i + 1, h => absurd h (by omega)
theorem ck_L_n_133 : (al_L_133.drop 1).isEmpty = true := by decide +kernel
theorem ck_L_b_134_0 : (al_L_134.drop 0).head?.all (fun alt => rf_run nm_cl nm_ct en_xs 8 xx_L kc_L cu_L po_L (some .boolean) 1 0 98 16364 (some mu_L_134) 5000 true 1209 alt) = true := by decide +kernel
theorem ck_L_c_134 : ∀ i, i < 1 → (al_L_134.drop i).head?.all (fun alt => rf_run nm_cl nm_ct en_xs 8 xx_L kc_L cu_L po_L (some .boolean) 1 0 98 16364 (some mu_L_134) 5000 true 1209 alt) = true
  | 0, _ => ck_L_b_134_0
  | i + 1, h => absurd h (by omega)
theorem ck_L_n_134 : (al_L_134.drop 1).isEmpty = true := by decide +kernel
theorem ck_L_b_135_0 : (al_L_135.drop 0).head?.all (fun alt => rf_run nm_cl nm_ct en_xs 8 xx_L kc_L cu_L po_L (some .boolean) 1 0 98 16364 (some mu_L_135) 5000 true 1209 alt) = true := by decide +kernel
theorem ck_L_c_135 : ∀ i, i < 1 → (al_L_135.drop i).head?.all (fun alt => rf_run nm_cl nm_ct en_xs 8 xx_L kc_L cu_L po_L (some .boolean) 1 0 98 16364 (some mu_L_135) 5000 true 1209 alt) = true
  | 0, _ => ck_L_b_135_0
  | i + 1, h => absurd h (by omega)
theorem ck_L_n_135 : (al_L_135.drop 1).isEmpty = true := by decide +kernel
theorem ck_L_b_136_0 : (al_L_136.drop 0).head?.all (fun alt => rf_run nm_cl nm_ct en_xs 8 xx_L kc_L cu_L po_L (some .boolean) 1 0 98 16364 (some mu_L_136) 5000 true 1209 alt) = true := by decide +kernel
theorem ck_L_c_136 : ∀ i, i < 1 → (al_L_136.drop i).head?.all (fun alt => rf_run nm_cl nm_ct en_xs 8 xx_L kc_L cu_L po_L (some .boolean) 1 0 98 16364 (some mu_L_136) 5000 true 1209 alt) = true
  | 0, _ => ck_L_b_136_0
  | i + 1, h => absurd h (by omega)
theorem ck_L_n_136 : (al_L_136.drop 1).isEmpty = true := by decide +kernel
theorem ck_L_b_137_0 : (al_L_137.drop 0).head?.all (fun alt => rf_run nm_cl nm_ct en_xs 8 xx_L kc_L cu_L po_L (some .boolean) 1 0 98 16364 (some mu_L_137) 5000 true 1209 alt) = true := by decide +kernel
theorem ck_L_c_137 : ∀ i, i < 1 → (al_L_137.drop i).head?.all (fun alt => rf_run nm_cl nm_ct en_xs 8 xx_L kc_L cu_L po_L (some .boolean) 1 0 98 16364 (some mu_L_137) 5000 true 1209 alt) = true
  | 0, _ => ck_L_b_137_0
  | i + 1, h => absurd h (by omega)
theorem ck_L_n_137 : (al_L_137.drop 1).isEmpty = true := by decide +kernel
