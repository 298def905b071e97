/-! the law: its checks -/
theorem ck_L_b_167_0 : (al_L_167.drop 0).head?.all (fun alt => rf_run nm_cl nm_ct en_xs 8 xx_L kc_L cu_L po_L (some .boolean) 1 0 98 16364 (some mu_L_167) 5000 true 1290 alt) = true := by decide +kernel
theorem ck_L_c_167 : ∀ i, i < 1 → (al_L_167.drop i).head?.all (fun alt => rf_run nm_cl nm_ct en_xs 8 xx_L kc_L cu_L po_L (some .boolean) 1 0 98 16364 (some mu_L_167) 5000 true 1290 alt) = true
  | 0, _ => ck_L_b_167_0
  | i + 1, h => absurd h (by omega)
theorem ck_L_n_167 : (al_L_167.drop 1).isEmpty = true := by decide +kernel
theorem ck_L_b_168_0 : (al_L_168.drop 0).head?.all (fun alt => rf_run nm_cl nm_ct en_xs 8 xx_L kc_L cu_L po_L (some .boolean) 1 0 98 16364 (some mu_L_168) 5000 true 1290 alt) = true := by decide +kernel
theorem ck_L_c_168 : ∀ i, i < 1 → (al_L_168.drop i).head?.all (fun alt => rf_run nm_cl nm_ct en_xs 8 xx_L kc_L cu_L po_L (some .boolean) 1 0 98 16364 (some mu_L_168) 5000 true 1290 alt) = true
  | 0, _ => ck_L_b_168_0
  | i + 1, h => absurd h (by omega)
theorem ck_L_n_168 : (al_L_168.drop 1).isEmpty = true := by decide +kernel
theorem ck_L_b_169_0 : (al_L_169.drop 0).head?.all (fun alt => rf_run nm_cl nm_ct en_xs 8 xx_L kc_L cu_L po_L (some .boolean) 1 0 98 16364 (some mu_L_169) 5000 true 1325 alt) = true := by decide +kernel
theorem ck_L_c_169 : ∀ i, i < 1 → (al_L_169.drop i).head?.all (fun alt => rf_run nm_cl nm_ct en_xs 8 xx_L kc_L cu_L po_L (some .boolean) 1 0 98 16364 (some mu_L_169) 5000 true 1325 alt) = true
  | 0, _ => ck_L_b_169_0
  | i + 1, h => absurd h (by omega)
theorem ck_L_n_169 : (al_L_169.drop 1).isEmpty = true := by decide +kernel
theorem ck_L_b_170_0 : (al_L_170.drop 0).head?.all (fun alt => rf_run nm_cl nm_ct en_xs 8 xx_L kc_L cu_L po_L (some .boolean) 1 0 98 16364 (some mu_L_170) 5000 true 1325 alt) = true := by decide +kernel
theorem ck_L_c_170 : ∀ i, i < 1 → (al_L_170.drop i).head?.all (fun alt => rf_run nm_cl nm_ct en_xs 8 xx_L kc_L cu_L po_L (some .boolean) 1 0 98 16364 (some mu_L_170) 5000 true 1325 alt) = true
  | 0, _ => ck_L_b_170_0
  | i + 1, h => absurd h (by omega)
theorem ck_L_n_170 : (al_L_170.drop 1).isEmpty = true := by decide +kernel
theorem ck_L_b_171_0 : (al_L_171.drop 0).head?.all (fun alt => rf_run nm_cl nm_ct en_xs 8 xx_L kc_L cu_L po_L (some .boolean) 1 0 98 16364 (some mu_L_171) 5000 true 1325 alt) = true := by decide +kernel
theorem ck_L_c_171 : ∀ i, i < 1 → (al_L_171.drop i).head?.all (fun alt => rf_run nm_cl nm_ct en_xs 8 xx_L kc_L cu_L po_L (some .boolean) 1 0 98 16364 (some mu_L_171) 5000 true 1325 alt) = true
  | 0, _ => ck_L_b_171_0
  | i + 1, h => absurd h (by omega)
theorem ck_L_n_171 : (al_L_171.drop 1).isEmpty = true := by decide +kernel
theorem ck_L_b_172_0 : (al_L_172.drop 0).head?.all (fun alt => rf_run nm_cl nm_ct en_xs 8 xx_L kc_L cu_L po_L (some .boolean) 1 0 98 16364 (some mu_L_172) 5000 true 1325 alt) = true := by decide +kernel
theorem ck_L_c_172 : ∀ i, i < 1 → (al_L_172.drop i).head?.all (fun alt => rf_run nm_cl nm_ct en_xs 8 xx_L kc_L cu_L po_L (some .boolean) 1 0 98 16364 (some mu_L_172) 5000 true 1325 alt) = true
  | 0, _ => ck_L_b_172_0
  | i + 1, h => absurd h (by omega)
theorem ck_L_n_172 : (al_L_172.drop 1).isEmpty = true := by decide +kernel
theorem ck_L_b_173_0 : (al_L_173.drop 0).head?.all (fun alt => rf_run nm_cl nm_ct en_xs 8 xx_L kc_L cu_L po_L (some .boolean) 1 0 98 16364 (some mu_L_173) 5000 true 1325 alt) = true := by decide +kernel
theorem ck_L_c_173 : ∀ i, i < 1 → (al_L_173.drop i).head?.all (fun alt => rf_run nm_cl nm_ct en_xs 8 xx_L kc_L cu_L po_L (some .boolean) 1 0 98 16364 (some mu_L_173) 5000 true 1325 alt) = true
  | 0, _ => ck_L_b_173_0
  | i + 1, h => absurd h (by omega)
theorem ck_L_n_173 : (al_L_173.drop 1).isEmpty = true := by decide +kernel
theorem ck_L_b_174_0 : (al_L_174.drop 0).head?.all (fun alt => rf_run nm_cl nm_ct en_xs 8 xx_L kc_L cu_L po_L (some .boolean) 1 0 98 16364 (some mu_L_174) 5000 true 1325 alt) = true := by decide +kernel
theorem ck_L_c_174 : ∀ i, i < 1 → (al_L_174.drop i).head?.all (fun alt => rf_run nm_cl nm_ct en_xs 8 xx_L kc_L cu_L po_L (some .boolean) 1 0 98 16364 (some mu_L_174) 5000 true 1325 alt) = true
  | 0, _ => ck_L_b_174_0
  | i + 1, h => absurd h (by omega)
theorem ck_L_n_174 : (al_L_174.drop 1).isEmpty = true := by decide +kernel
theorem ck_L_b_175_0 : (al_L_175.drop 0).head?.all (fun alt => rf_run nm_cl nm_ct en_xs 8 xx_L kc_L cu_L po_L (some .boolean) 1 0 98 16364 (some mu_L_175) 5000 true 1325 alt) = true := by decide +kernel
theorem ck_L_c_175 : ∀ i, i < 1 → (al_L_175.drop i).head?.all (fun alt => rf_run nm_cl nm_ct en_xs 8 xx_L kc_L cu_L po_L (some .boolean) 1 0 98 16364 (some mu_L_175) 5000 true 1325 alt) = true
  | 0, _ => ck_L_b_175_0
  | i + 1, h => absurd h (by omega)
theorem ck_L_n_175 : (al_L_175.drop 1).isEmpty = true := by decide +kernel
theorem ck_L_b_176_0 : (al_L_176.drop 0).head?.all (fun alt => rf_run nm_cl nm_ct en_xs 8 xx_L kc_L cu_L po_L (some .boolean) 1 0 98 16364 (some mu_L_176) 5000 true 1325 alt) = true := by decide +kernel
theorem ck_L_c_176 : ∀ i, i < 1 → (al_L_176.drop i).head?.all (fun alt => rf_run nm_cl nm_ct en_xs 8 xx_L kc_L cu_L po_L (some .boolean) 1 0 98 16364 (some mu_L_176) 5000 true 1325 alt) = true
  | 0, _ => ck_L_b_176_0
  | i + 1, h => absurd h (by omega)
theorem ck_L_n_176 : (al_L_176.drop 1).isEmpty = true := by decide +kernel
theorem ck_L_b_177_0 : (al_L_177.drop 0).head?.all (fun alt => rf_run nm_cl nm_ct en_xs 8 xx_L kc_L cu_L po_L (some .boolean) 1 0 98 16364 (some mu_L_177) 5000 true 1325 alt) = true := by decide +kernel
theorem ck_L_c_177 : ∀ i, i < 1 → (al_L_177.drop i).head?.all (fun alt => rf_run nm_cl nm_ct en_xs 8 xx_L kc_L cu_L po_L (some .boolean) 1 0 98 16364 (some mu_L_177) 5000 true 1325 alt) = true
  | 0, _ => ck_L_b_177_0
  | i + 1, h => absurd h (by omega)
theorem ck_L_n_177 : (al_L_177.drop 1).isEmpty = true := by decide +kernel
theorem ck_L_b_178_0 : (al_L_178.drop 0).head?.all (fun alt => rf_run nm_cl nm_ct en_xs 8 xx_L kc_L cu_L po_L (some .boolean) 1 0 98 16364 (some mu_L_178) 5000 true 1325 alt) = true := by decide +kernel
theorem ck_L_c_178 : ∀ i, i < 1 → (al_L_178.drop i).head?.all (fun alt => rf_run nm_cl nm_ct en_xs 8 xx_L kc_L cu_L po_L (some .boolean) 1 0 98 16364 (some mu_L_178) 5000 true 1325 alt) = true
  | 0, _ => ck_L_b_178_0
  | i + 1, h => absurd h (by omega)
theorem ck_L_n_178 : (al_L_178.drop 1).isEmpty = true := by decide +kernel
