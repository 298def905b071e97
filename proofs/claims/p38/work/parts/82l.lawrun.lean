/-! the law: its checks -/
theorem ck_L_b_105_0 : (al_L_105.drop 0).head?.all (fun alt => rf_run nm_cl nm_ct en_xs 8 xx_L kc_L cu_L po_L (some .boolean) 1 0 98 16364 (some mu_L_105) 5000 true 1391 alt) = true := by decide +kernel
theorem ck_L_c_105 : ∀ i, i < 1 → (al_L_105.drop i).head?.all (fun alt => rf_run nm_cl nm_ct en_xs 8 xx_L kc_L cu_L po_L (some .boolean) 1 0 98 16364 (some mu_L_105) 5000 true 1391 alt) = true
  | 0, _ => ck_L_b_105_0
  | i + 1, h => absurd h (by omega)
theorem ck_L_n_105 : (al_L_105.drop 1).isEmpty = true := by decide +kernel
theorem ck_L_b_106_0 : (al_L_106.drop 0).head?.all (fun alt => rf_run nm_cl nm_ct en_xs 8 xx_L kc_L cu_L po_L (some .boolean) 1 0 98 16364 (some mu_L_106) 5000 true 1391 alt) = true := by decide +kernel
theorem ck_L_c_106 : ∀ i, i < 1 → (al_L_106.drop i).head?.all (fun alt => rf_run nm_cl nm_ct en_xs 8 xx_L kc_L cu_L po_L (some .boolean) 1 0 98 16364 (some mu_L_106) 5000 true 1391 alt) = true
  | 0, _ => ck_L_b_106_0
  | i + 1, h => absurd h (by omega)
theorem ck_L_n_106 : (al_L_106.drop 1).isEmpty = true := by decide +kernel
theorem ck_L_b_107_0 : (al_L_107.drop 0).head?.all (fun alt => rf_run nm_cl nm_ct en_xs 8 xx_L kc_L cu_L po_L (some .boolean) 1 0 98 16364 (some mu_L_107) 5000 true 1391 alt) = true := by decide +kernel
theorem ck_L_c_107 : ∀ i, i < 1 → (al_L_107.drop i).head?.all (fun alt => rf_run nm_cl nm_ct en_xs 8 xx_L kc_L cu_L po_L (some .boolean) 1 0 98 16364 (some mu_L_107) 5000 true 1391 alt) = true
  | 0, _ => ck_L_b_107_0
  | i + 1, h => absurd h (by omega)
theorem ck_L_n_107 : (al_L_107.drop 1).isEmpty = true := by decide +kernel
theorem ck_L_b_108_0 : (al_L_108.drop 0).head?.all (fun alt => rf_run nm_cl nm_ct en_xs 8 xx_L kc_L cu_L po_L (some .boolean) 1 0 98 16364 (some mu_L_108) 5000 true 1391 alt) = true := by decide +kernel
theorem ck_L_c_108 : ∀ i, i < 1 → (al_L_108.drop i).head?.all (fun alt => rf_run nm_cl nm_ct en_xs 8 xx_L kc_L cu_L po_L (some .boolean) 1 0 98 16364 (some mu_L_108) 5000 true 1391 alt) = true
  | 0, _ => ck_L_b_108_0
  | i + 1, h => absurd h (by omega)
theorem ck_L_n_108 : (al_L_108.drop 1).isEmpty = true := by decide +kernel
theorem ck_L_b_109_0 : (al_L_109.drop 0).head?.all (fun alt => rf_run nm_cl nm_ct en_xs 8 xx_L kc_L cu_L po_L (some .boolean) 1 0 98 16364 (some mu_L_109) 5000 true 1391 alt) = true := by decide +kernel
theorem ck_L_c_109 : ∀ i, i < 1 → (al_L_109.drop i).head?.all (fun alt => rf_run nm_cl nm_ct en_xs 8 xx_L kc_L cu_L po_L (some .boolean) 1 0 98 16364 (some mu_L_109) 5000 true 1391 alt) = true
  | 0, _ => ck_L_b_109_0
  | i + 1, h => absurd h (by omega)
theorem ck_L_n_109 : (al_L_109.drop 1).isEmpty = true := by decide +kernel
theorem ck_L_b_110_0 : (al_L_110.drop 0).head?.all (fun alt => rf_run nm_cl nm_ct en_xs 8 xx_L kc_L cu_L po_L (some .boolean) 1 0 98 16364 (some mu_L_110) 5000 true 1391 alt) = true := by decide +kernel
theorem ck_L_c_110 : ∀ i, i < 1 → (al_L_110.drop i).head?.all (fun alt => rf_run nm_cl nm_ct en_xs 8 xx_L kc_L cu_L po_L (some .boolean) 1 0 98 16364 (some mu_L_110) 5000 true 1391 alt) = true
  | 0, _ => ck_L_b_110_0
  | i + 1, h => absurd h (by omega)
theorem ck_L_n_110 : (al_L_110.drop 1).isEmpty = true := by decide +kernel
theorem ck_L_b_111_0 : (al_L_111.drop 0).head?.all (fun alt => rf_run nm_cl nm_ct en_xs 8 xx_L kc_L cu_L po_L (some .boolean) 1 0 98 16364 (some mu_L_111) 5000 true 1391 alt) = true := by decide +kernel
theorem ck_L_c_111 : ∀ i, i < 1 → (al_L_111.drop i).head?.all (fun alt => rf_run nm_cl nm_ct en_xs 8 xx_L kc_L cu_L po_L (some .boolean) 1 0 98 16364 (some mu_L_111) 5000 true 1391 alt) = true
  | 0, _ => ck_L_b_111_0
  | i + 1, h => absurd h (by omega)
theorem ck_L_n_111 : (al_L_111.drop 1).isEmpty = true := by decide +kernel
theorem ck_L_b_112_0 : (al_L_112.drop 0).head?.all (fun alt => rf_run nm_cl nm_ct en_xs 8 xx_L kc_L cu_L po_L (some .boolean) 1 0 98 16364 (some mu_L_112) 5000 true 1391 alt) = true := by decide +kernel
theorem ck_L_c_112 : ∀ i, i < 1 → (al_L_112.drop i).head?.all (fun alt => rf_run nm_cl nm_ct en_xs 8 xx_L kc_L cu_L po_L (some .boolean) 1 0 98 16364 (some mu_L_112) 5000 true 1391 alt) = true
  | 0, _ => ck_L_b_112_0
  | i + 1, h => absurd h (by omega)
theorem ck_L_n_112 : (al_L_112.drop 1).isEmpty = true := by decide +kernel
theorem ck_L_b_113_0 : (al_L_113.drop 0).head?.all (fun alt => rf_run nm_cl nm_ct en_xs 8 xx_L kc_L cu_L po_L (some .boolean) 1 0 98 16364 (some mu_L_113) 5000 true 1391 alt) = true := by decide +kernel
theorem ck_L_c_113 : ∀ i, i < 1 → (al_L_113.drop i).head?.all (fun alt => rf_run nm_cl nm_ct en_xs 8 xx_L kc_L cu_L po_L (some .boolean) 1 0 98 16364 (some mu_L_113) 5000 true 1391 alt) = true
  | 0, _ => ck_L_b_113_0
  | i + 1, h => absurd h (by omega)
theorem ck_L_n_113 : (al_L_113.drop 1).isEmpty = true := by decide +kernel
theorem ck_L_b_114_0 : (al_L_114.drop 0).head?.all (fun alt => rf_run nm_cl nm_ct en_xs 8 xx_L kc_L cu_L po_L (some .boolean) 1 0 98 16364 (some mu_L_114) 5000 true 1391 alt) = true := by decide +kernel
theorem ck_L_c_114 : ∀ i, i < 1 → (al_L_114.drop i).head?.all (fun alt => rf_run nm_cl nm_ct en_xs 8 xx_L kc_L cu_L po_L (some .boolean) 1 0 98 16364 (some mu_L_114) 5000 true 1391 alt) = true
  | 0, _ => ck_L_b_114_0
  | i + 1, h => absurd h (by omega)
theorem ck_L_n_114 : (al_L_114.drop 1).isEmpty = true := by decide +kernel
theorem ck_L_b_115_0 : (al_L_115.drop 0).head?.all (fun alt => rf_run nm_cl nm_ct en_xs 8 xx_L kc_L cu_L po_L (some .boolean) 1 0 98 16364 (some mu_L_115) 5000 true 1420 alt) = true := by decide +kernel
theorem ck_L_c_115 : ∀ i, i < 1 → (al_L_115.drop i).head?.all (fun alt => rf_run nm_cl nm_ct en_xs 8 xx_L kc_L cu_L po_L (some .boolean) 1 0 98 16364 (some mu_L_115) 5000 true 1420 alt) = true
  | 0, _ => ck_L_b_115_0
  | i + 1, h => absurd h (by omega)
theorem ck_L_n_115 : (al_L_115.drop 1).isEmpty = true := by decide +kernel
theorem ck_L_b_116_0 : (al_L_116.drop 0).head?.all (fun alt => rf_run nm_cl nm_ct en_xs 8 xx_L kc_L cu_L po_L (some .boolean) 1 0 98 16364 (some mu_L_116) 5000 true 1420 alt) = true := by decide +kernel
theorem ck_L_c_116 : ∀ i, i < 1 → (al_L_116.drop i).head?.all (fun alt => rf_run nm_cl nm_ct en_xs 8 xx_L kc_L cu_L po_L (some .boolean) 1 0 98 16364 (some mu_L_116) 5000 true 1420 alt) = true
  | 0, _ => ck_L_b_116_0
  | i + 1, h => absurd h (by omega)
theorem ck_L_n_116 : (al_L_116.drop 1).isEmpty = true := by decide +kernel
theorem ck_L_c_117 : ∀ i, i < 0 → (al_L_117.drop i).head?.all (fun alt => rf_run nm_cl nm_ct en_xs 8 xx_L kc_L cu_L po_L (some .boolean) 1 0 98 16364 (some mu_L_117) 5000 true 1420 alt) = true
  | i + 0, h => absurd h (by omega)
theorem ck_L_n_117 : (al_L_117.drop 0).isEmpty = true := by decide +kernel
theorem ck_L_c_118 : ∀ i, i < 0 → (al_L_118.drop i).head?.all (fun alt => rf_run nm_cl nm_ct en_xs 8 xx_L kc_L cu_L po_L (some .boolean) 1 0 98 16364 (some mu_L_118) 5000 true 1420 alt) = true
  | i + 0, h => absurd h (by omega)
theorem ck_L_n_118 : (al_L_118.drop 0).isEmpty = true := by decide +kernel
theorem ck_L_c_119 : ∀ i, i < 0 → (al_L_119.drop i).head?.all (fun alt => rf_run nm_cl nm_ct en_xs 8 xx_L kc_L cu_L po_L (some .boolean) 1 0 98 16364 (some mu_L_119) 5000 true 1420 alt) = true
  | i + 0, h => absurd h (by omega)
theorem ck_L_n_119 : (al_L_119.drop 0).isEmpty = true := by decide +kernel
theorem ck_L_c_120 : ∀ i, i < 0 → (al_L_120.drop i).head?.all (fun alt => rf_run nm_cl nm_ct en_xs 8 xx_L kc_L cu_L po_L (some .boolean) 1 0 98 16364 (some mu_L_120) 5000 true 1420 alt) = true
  | i + 0, h => absurd h (by omega)
theorem ck_L_n_120 : (al_L_120.drop 0).isEmpty = true := by decide +kernel
theorem ck_L_c_121 : ∀ i, i < 0 → (al_L_121.drop i).head?.all (fun alt => rf_run nm_cl nm_ct en_xs 8 xx_L kc_L cu_L po_L (some .boolean) 1 0 98 16364 (some mu_L_121) 5000 true 1420 alt) = true
  | i + 0, h => absurd h (by omega)
theorem ck_L_n_121 : (al_L_121.drop 0).isEmpty = true := by decide +kernel
theorem ck_L_c_122 : ∀ i, i < 0 → (al_L_122.drop i).head?.all (fun alt => rf_run nm_cl nm_ct en_xs 8 xx_L kc_L cu_L po_L (some .boolean) 1 0 98 16364 (some mu_L_122) 5000 true 1420 alt) = true
  | i + 0, h => absurd h (by omega)
theorem ck_L_n_122 : (al_L_122.drop 0).isEmpty = true := by decide +kernel
theorem ck_L_c_123 : ∀ i, i < 0 → (al_L_123.drop i).head?.all (fun alt => rf_run nm_cl nm_ct en_xs 8 xx_L kc_L cu_L po_L (some .boolean) 1 0 98 16364 (some mu_L_123) 5000 true 1420 alt) = true
  | i + 0, h => absurd h (by omega)
theorem ck_L_n_123 : (al_L_123.drop 0).isEmpty = true := by decide +kernel
theorem ck_L_c_124 : ∀ i, i < 0 → (al_L_124.drop i).head?.all (fun alt => rf_run nm_cl nm_ct en_xs 8 xx_L kc_L cu_L po_L (some .boolean) 1 0 98 16364 (some mu_L_124) 5000 true 1420 alt) = true
  | i + 0, h => absurd h (by omega)
theorem ck_L_n_124 : (al_L_124.drop 0).isEmpty = true := by decide +kernel
theorem ck_L_c_125 : ∀ i, i < 0 → (al_L_125.drop i).head?.all (fun alt => rf_run nm_cl nm_ct en_xs 8 xx_L kc_L cu_L po_L (some .boolean) 1 0 98 16364 (some mu_L_125) 5000 true 1420 alt) = true
  | i + 0, h => absurd h (by omega)
theorem ck_L_n_125 : (al_L_125.drop 0).isEmpty = true := by decide +kernel
theorem ck_L_c_126 : ∀ i, i < 0 → (al_L_126.drop i).head?.all (fun alt => rf_run nm_cl nm_ct en_xs 8 xx_L kc_L cu_L po_L (some .boolean) 1 0 98 16364 (some mu_L_126) 5000 true 1420 alt) = true
  | i + 0, h => absurd h (by omega)
theorem ck_L_n_126 : (al_L_126.drop 0).isEmpty = true := by decide +kernel
theorem ck_L_c_127 : ∀ i, i < 0 → (al_L_127.drop i).head?.all (fun alt => rf_run nm_cl nm_ct en_xs 8 xx_L kc_L cu_L po_L (some .boolean) 1 0 98 16364 (some mu_L_127) 5000 true 1420 alt) = true
  | i + 0, h => absurd h (by omega)
theorem ck_L_n_127 : (al_L_127.drop 0).isEmpty = true := by decide +kernel
theorem ck_L_c_128 : ∀ i, i < 0 → (al_L_128.drop i).head?.all (fun alt => rf_run nm_cl nm_ct en_xs 8 xx_L kc_L cu_L po_L (some .boolean) 1 0 98 16364 (some mu_L_128) 5000 true 1420 alt) = true
  | i + 0, h => absurd h (by omega)
theorem ck_L_n_128 : (al_L_128.drop 0).isEmpty = true := by decide +kernel
theorem ck_L_c_129 : ∀ i, i < 0 → (al_L_129.drop i).head?.all (fun alt => rf_run nm_cl nm_ct en_xs 8 xx_L kc_L cu_L po_L (some .boolean) 1 0 98 16364 (some mu_L_129) 5000 true 1420 alt) = true
  | i + 0, h => absurd h (by omega)
theorem ck_L_n_129 : (al_L_129.drop 0).isEmpty = true := by decide +kernel
theorem ck_L_c_130 : ∀ i, i < 0 → (al_L_130.drop i).head?.all (fun alt => rf_run nm_cl nm_ct en_xs 8 xx_L kc_L cu_L po_L (some .boolean) 1 0 98 16364 (some mu_L_130) 5000 true 1420 alt) = true
  | i + 0, h => absurd h (by omega)
theorem ck_L_n_130 : (al_L_130.drop 0).isEmpty = true := by decide +kernel
theorem ck_L_c_131 : ∀ i, i < 0 → (al_L_131.drop i).head?.all (fun alt => rf_run nm_cl nm_ct en_xs 8 xx_L kc_L cu_L po_L (some .boolean) 1 0 98 16364 (some mu_L_131) 5000 true 1420 alt) = true
  | i + 0, h => absurd h (by omega)
theorem ck_L_n_131 : (al_L_131.drop 0).isEmpty = true := by decide +kernel
theorem ck_L_c_132 : ∀ i, i < 0 → (al_L_132.drop i).head?.all (fun alt => rf_run nm_cl nm_ct en_xs 8 xx_L kc_L cu_L po_L (some .boolean) 1 0 98 16364 (some mu_L_132) 5000 true 1420 alt) = true
  | i + 0, h => absurd h (by omega)
theorem ck_L_n_132 : (al_L_132.drop 0).isEmpty = true := by decide +kernel
theorem ck_L_c_133 : ∀ i, i < 0 → (al_L_133.drop i).head?.all (fun alt => rf_run nm_cl nm_ct en_xs 8 xx_L kc_L cu_L po_L (some .boolean) 1 0 98 16364 (some mu_L_133) 5000 true 1420 alt) = true
  | i + 0, h => absurd h (by omega)
theorem ck_L_n_133 : (al_L_133.drop 0).isEmpty = true := by decide +kernel
