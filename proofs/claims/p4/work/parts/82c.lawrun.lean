/-! the law: its checks -/
theorem ck_L_b_97_0 : (al_L_97.drop 0).head?.all (fun alt => rf_run nm_cl nm_ct en_xs 8 xx_L kc_L cu_L po_L (some .boolean) 1 0 98 16364 (some mu_L_97) 5000 true 1157 alt) = true := by decide +kernel
theorem ck_L_c_97 : ∀ i, i < 1 → (al_L_97.drop i).head?.all (fun alt => rf_run nm_cl nm_ct en_xs 8 xx_L kc_L cu_L po_L (some .boolean) 1 0 98 16364 (some mu_L_97) 5000 true 1157 alt) = true
  | 0, _ => ck_L_b_97_0
  | i + 1, h => absurd h (by omega)
theorem ck_L_n_97 : (al_L_97.drop 1).isEmpty = true := by decide +kernel
theorem ck_L_b_98_0 : (al_L_98.drop 0).head?.all (fun alt => rf_run nm_cl nm_ct en_xs 8 xx_L kc_L cu_L po_L (some .boolean) 1 0 98 16364 (some mu_L_98) 5000 true 1180 alt) = true := by decide +kernel
theorem ck_L_c_98 : ∀ i, i < 1 → (al_L_98.drop i).head?.all (fun alt => rf_run nm_cl nm_ct en_xs 8 xx_L kc_L cu_L po_L (some .boolean) 1 0 98 16364 (some mu_L_98) 5000 true 1180 alt) = true
  | 0, _ => ck_L_b_98_0
  | i + 1, h => absurd h (by omega)
theorem ck_L_n_98 : (al_L_98.drop 1).isEmpty = true := by decide +kernel
theorem ck_L_b_99_0 : (al_L_99.drop 0).head?.all (fun alt => rf_run nm_cl nm_ct en_xs 8 xx_L kc_L cu_L po_L (some .boolean) 1 0 98 16364 (some mu_L_99) 5000 true 1191 alt) = true := by decide +kernel
theorem ck_L_b_99_1 : (al_L_99.drop 1).head?.all (fun alt => rf_run nm_cl nm_ct en_xs 8 xx_L kc_L cu_L po_L (some .boolean) 1 0 98 16364 (some mu_L_99) 5000 true 1191 alt) = true := by decide +kernel
theorem ck_L_b_99_2 : (al_L_99.drop 2).head?.all (fun alt => rf_run nm_cl nm_ct en_xs 8 xx_L kc_L cu_L po_L (some .boolean) 1 0 98 16364 (some mu_L_99) 5000 true 1191 alt) = true := by decide +kernel
theorem ck_L_b_99_3 : (al_L_99.drop 3).head?.all (fun alt => rf_run nm_cl nm_ct en_xs 8 xx_L kc_L cu_L po_L (some .boolean) 1 0 98 16364 (some mu_L_99) 5000 true 1191 alt) = true := by decide +kernel
theorem ck_L_b_99_4 : (al_L_99.drop 4).head?.all (fun alt => rf_run nm_cl nm_ct en_xs 8 xx_L kc_L cu_L po_L (some .boolean) 1 0 98 16364 (some mu_L_99) 5000 true 1191 alt) = true := by decide +kernel
theorem ck_L_b_99_5 : (al_L_99.drop 5).head?.all (fun alt => rf_run nm_cl nm_ct en_xs 8 xx_L kc_L cu_L po_L (some .boolean) 1 0 98 16364 (some mu_L_99) 5000 true 1191 alt) = true := by decide +kernel
theorem ck_L_b_99_6 : (al_L_99.drop 6).head?.all (fun alt => rf_run nm_cl nm_ct en_xs 8 xx_L kc_L cu_L po_L (some .boolean) 1 0 98 16364 (some mu_L_99) 5000 true 1191 alt) = true := by decide +kernel
theorem ck_L_b_99_7 : (al_L_99.drop 7).head?.all (fun alt => rf_run nm_cl nm_ct en_xs 8 xx_L kc_L cu_L po_L (some .boolean) 1 0 98 16364 (some mu_L_99) 5000 true 1191 alt) = true := by decide +kernel
theorem ck_L_c_99 : ∀ i, i < 8 → (al_L_99.drop i).head?.all (fun alt => rf_run nm_cl nm_ct en_xs 8 xx_L kc_L cu_L po_L (some .boolean) 1 0 98 16364 (some mu_L_99) 5000 true 1191 alt) = true
  | 0, _ => ck_L_b_99_0
  | 1, _ => ck_L_b_99_1
  | 2, _ => ck_L_b_99_2
  | 3, _ => ck_L_b_99_3
  | 4, _ => ck_L_b_99_4
  | 5, _ => ck_L_b_99_5
  | 6, _ => ck_L_b_99_6
  | 7, _ => ck_L_b_99_7
  | i + 8, h => absurd h (by omega)
theorem ck_L_n_99 : (al_L_99.drop 8).isEmpty = true := by decide +kernel
theorem ck_L_b_100_0 : (al_L_100.drop 0).head?.all (fun alt => rf_run nm_cl nm_ct en_xs 8 xx_L kc_L cu_L po_L (some .boolean) 1 0 98 16364 (some mu_L_100) 5000 true 1209 alt) = true := by decide +kernel
theorem ck_L_c_100 : ∀ i, i < 1 → (al_L_100.drop i).head?.all (fun alt => rf_run nm_cl nm_ct en_xs 8 xx_L kc_L cu_L po_L (some .boolean) 1 0 98 16364 (some mu_L_100) 5000 true 1209 alt) = true
  | 0, _ => ck_L_b_100_0
  | i + 1, h => absurd h (by omega)
theorem ck_L_n_100 : (al_L_100.drop 1).isEmpty = true := by decide +kernel
theorem ck_L_b_101_0 : (al_L_101.drop 0).head?.all (fun alt => rf_run nm_cl nm_ct en_xs 8 xx_L kc_L cu_L po_L (some .boolean) 1 0 98 16364 (some mu_L_101) 5000 true 1209 alt) = true := by decide +kernel
theorem ck_L_c_101 : ∀ i, i < 1 → (al_L_101.drop i).head?.all (fun alt => rf_run nm_cl nm_ct en_xs 8 xx_L kc_L cu_L po_L (some .boolean) 1 0 98 16364 (some mu_L_101) 5000 true 1209 alt) = true
  | 0, _ => ck_L_b_101_0
  | i + 1, h => absurd h (by omega)
theorem ck_L_n_101 : (al_L_101.drop 1).isEmpty = true := by decide +kernel
theorem ck_L_b_102_0 : (al_L_102.drop 0).head?.all (fun alt => rf_run nm_cl nm_ct en_xs 8 xx_L kc_L cu_L po_L (some .boolean) 1 0 98 16364 (some mu_L_102) 5000 true 1209 alt) = true := by decide +kernel
theorem ck_L_c_102 : ∀ i, i < 1 → (al_L_102.drop i).head?.all (fun alt => rf_run nm_cl nm_ct en_xs 8 xx_L kc_L cu_L po_L (some .boolean) 1 0 98 16364 (some mu_L_102) 5000 true 1209 alt) = true
  | 0, _ => ck_L_b_102_0
  | i + 1, h => absurd h (by omega)
theorem ck_L_n_102 : (al_L_102.drop 1).isEmpty = true := by decide +kernel
theorem ck_L_b_103_0 : (al_L_103.drop 0).head?.all (fun alt => rf_run nm_cl nm_ct en_xs 8 xx_L kc_L cu_L po_L (some .boolean) 1 0 98 16364 (some mu_L_103) 5000 true 1209 alt) = true := by decide +kernel
theorem ck_L_c_103 : ∀ i, i < 1 → (al_L_103.drop i).head?.all (fun alt => rf_run nm_cl nm_ct en_xs 8 xx_L kc_L cu_L po_L (some .boolean) 1 0 98 16364 (some mu_L_103) 5000 true 1209 alt) = true
  | 0, _ => ck_L_b_103_0
  | i + 1, h => absurd h (by omega)
theorem ck_L_n_103 : (al_L_103.drop 1).isEmpty = true := by decide +kernel
theorem ck_L_b_104_0 : (al_L_104.drop 0).head?.all (fun alt => rf_run nm_cl nm_ct en_xs 8 xx_L kc_L cu_L po_L (some .boolean) 1 0 98 16364 (some mu_L_104) 5000 true 1209 alt) = true := by decide +kernel
theorem ck_L_c_104 : ∀ i, i < 1 → (al_L_104.drop i).head?.all (fun alt => rf_run nm_cl nm_ct en_xs 8 xx_L kc_L cu_L po_L (some .boolean) 1 0 98 16364 (some mu_L_104) 5000 true 1209 alt) = true
  | 0, _ => ck_L_b_104_0
  | i + 1, h => absurd h (by omega)
theorem ck_L_n_104 : (al_L_104.drop 1).isEmpty = true := by decide +kernel
theorem ck_L_b_105_0 : (al_L_105.drop 0).head?.all (fun alt => rf_run nm_cl nm_ct en_xs 8 xx_L kc_L cu_L po_L (some .boolean) 1 0 98 16364 (some mu_L_105) 5000 true 1209 alt) = true := by decide +kernel
theorem ck_L_c_105 : ∀ i, i < 1 → (al_L_105.drop i).head?.all (fun alt => rf_run nm_cl nm_ct en_xs 8 xx_L kc_L cu_L po_L (some .boolean) 1 0 98 16364 (some mu_L_105) 5000 true 1209 alt) = true
  | 0, _ => ck_L_b_105_0
  | i + 1, h => absurd h (by omega)
theorem ck_L_n_105 : (al_L_105.drop 1).isEmpty = true := by decide +kernel
theorem ck_L_b_106_0 : (al_L_106.drop 0).head?.all (fun alt => rf_run nm_cl nm_ct en_xs 8 xx_L kc_L cu_L po_L (some .boolean) 1 0 98 16364 (some mu_L_106) 5000 true 1209 alt) = true := by decide +kernel
theorem ck_L_c_106 : ∀ i, i < 1 → (al_L_106.drop i).head?.all (fun alt => rf_run nm_cl nm_ct en_xs 8 xx_L kc_L cu_L po_L (some .boolean) 1 0 98 16364 (some mu_L_106) 5000 true 1209 alt) = true
  | 0, _ => ck_L_b_106_0
  | i + 1, h => absurd h (by omega)
theorem ck_L_n_106 : (al_L_106.drop 1).isEmpty = true := by decide +kernel
theorem ck_L_b_107_0 : (al_L_107.drop 0).head?.all (fun alt => rf_run nm_cl nm_ct en_xs 8 xx_L kc_L cu_L po_L (some .boolean) 1 0 98 16364 (some mu_L_107) 5000 true 1209 alt) = true := by decide +kernel
theorem ck_L_c_107 : ∀ i, i < 1 → (al_L_107.drop i).head?.all (fun alt => rf_run nm_cl nm_ct en_xs 8 xx_L kc_L cu_L po_L (some .boolean) 1 0 98 16364 (some mu_L_107) 5000 true 1209 alt) = true
  | 0, _ => ck_L_b_107_0
  | i + 1, h => absurd h (by omega)
theorem ck_L_n_107 : (al_L_107.drop 1).isEmpty = true := by decide +kernel
theorem ck_L_b_108_0 : (al_L_108.drop 0).head?.all (fun alt => rf_run nm_cl nm_ct en_xs 8 xx_L kc_L cu_L po_L (some .boolean) 1 0 98 16364 (some mu_L_108) 5000 true 1209 alt) = true := by decide +kernel
theorem ck_L_c_108 : ∀ i, i < 1 → (al_L_108.drop i).head?.all (fun alt => rf_run nm_cl nm_ct en_xs 8 xx_L kc_L cu_L po_L (some .boolean) 1 0 98 16364 (some mu_L_108) 5000 true 1209 alt) = true
  | 0, _ => ck_L_b_108_0
  | i + 1, h => absurd h (by omega)
theorem ck_L_n_108 : (al_L_108.drop 1).isEmpty = true := by decide +kernel
theorem ck_L_b_109_0 : (al_L_109.drop 0).head?.all (fun alt => rf_run nm_cl nm_ct en_xs 8 xx_L kc_L cu_L po_L (some .boolean) 1 0 98 16364 (some mu_L_109) 5000 true 1209 alt) = true := by decide +kernel
theorem ck_L_c_109 : ∀ i, i < 1 → (al_L_109.drop i).head?.all (fun alt => rf_run nm_cl nm_ct en_xs 8 xx_L kc_L cu_L po_L (some .boolean) 1 0 98 16364 (some mu_L_109) 5000 true 1209 alt) = true
  | 0, _ => ck_L_b_109_0
  | i + 1, h => absurd h (by omega)
theorem ck_L_n_109 : (al_L_109.drop 1).isEmpty = true := by decide +kernel
theorem ck_L_b_110_0 : (al_L_110.drop 0).head?.all (fun alt => rf_run nm_cl nm_ct en_xs 8 xx_L kc_L cu_L po_L (some .boolean) 1 0 98 16364 (some mu_L_110) 5000 true 1209 alt) = true := by decide +kernel
theorem ck_L_c_110 : ∀ i, i < 1 → (al_L_110.drop i).head?.all (fun alt => rf_run nm_cl nm_ct en_xs 8 xx_L kc_L cu_L po_L (some .boolean) 1 0 98 16364 (some mu_L_110) 5000 true 1209 alt) = true
  | 0, _ => ck_L_b_110_0
  | i + 1, h => absurd h (by omega)
theorem ck_L_n_110 : (al_L_110.drop 1).isEmpty = true := by decide +kernel
theorem ck_L_b_111_0 : (al_L_111.drop 0).head?.all (fun alt => rf_run nm_cl nm_ct en_xs 8 xx_L kc_L cu_L po_L (some .boolean) 1 0 98 16364 (some mu_L_111) 5000 true 1209 alt) = true := by decide +kernel
theorem ck_L_c_111 : ∀ i, i < 1 → (al_L_111.drop i).head?.all (fun alt => rf_run nm_cl nm_ct en_xs 8 xx_L kc_L cu_L po_L (some .boolean) 1 0 98 16364 (some mu_L_111) 5000 true 1209 alt) = true
  | 0, _ => ck_L_b_111_0
  | i + 1, h => absurd h (by omega)
theorem ck_L_n_111 : (al_L_111.drop 1).isEmpty = true := by decide +kernel
theorem ck_L_b_112_0 : (al_L_112.drop 0).head?.all (fun alt => rf_run nm_cl nm_ct en_xs 8 xx_L kc_L cu_L po_L (some .boolean) 1 0 98 16364 (some mu_L_112) 5000 true 1209 alt) = true := by decide +kernel
theorem ck_L_c_112 : ∀ i, i < 1 → (al_L_112.drop i).head?.all (fun alt => rf_run nm_cl nm_ct en_xs 8 xx_L kc_L cu_L po_L (some .boolean) 1 0 98 16364 (some mu_L_112) 5000 true 1209 alt) = true
  | 0, _ => ck_L_b_112_0
  | i + 1, h => absurd h (by omega)
theorem ck_L_n_112 : (al_L_112.drop 1).isEmpty = true := by decide +kernel
theorem ck_L_b_113_0 : (al_L_113.drop 0).head?.all (fun alt => rf_run nm_cl nm_ct en_xs 8 xx_L kc_L cu_L po_L (some .boolean) 1 0 98 16364 (some mu_L_113) 5000 true 1213 alt) = true := by decide +kernel
theorem ck_L_c_113 : ∀ i, i < 1 → (al_L_113.drop i).head?.all (fun alt => rf_run nm_cl nm_ct en_xs 8 xx_L kc_L cu_L po_L (some .boolean) 1 0 98 16364 (some mu_L_113) 5000 true 1213 alt) = true
  | 0, _ => ck_L_b_113_0
  | i + 1, h => absurd h (by omega)
theorem ck_L_n_113 : (al_L_113.drop 1).isEmpty = true := by decide +kernel
theorem ck_L_b_114_0 : (al_L_114.drop 0).head?.all (fun alt => rf_run nm_cl nm_ct en_xs 8 xx_L kc_L cu_L po_L (some .boolean) 1 0 98 16364 (some mu_L_114) 5000 true 1229 alt) = true := by decide +kernel
theorem ck_L_b_114_1 : (al_L_114.drop 1).head?.all (fun alt => rf_run nm_cl nm_ct en_xs 8 xx_L kc_L cu_L po_L (some .boolean) 1 0 98 16364 (some mu_L_114) 5000 true 1229 alt) = true := by decide +kernel
theorem ck_L_b_114_2 : (al_L_114.drop 2).head?.all (fun alt => rf_run nm_cl nm_ct en_xs 8 xx_L kc_L cu_L po_L (some .boolean) 1 0 98 16364 (some mu_L_114) 5000 true 1229 alt) = true := by decide +kernel
theorem ck_L_b_114_3 : (al_L_114.drop 3).head?.all (fun alt => rf_run nm_cl nm_ct en_xs 8 xx_L kc_L cu_L po_L (some .boolean) 1 0 98 16364 (some mu_L_114) 5000 true 1229 alt) = true := by decide +kernel
theorem ck_L_b_114_4 : (al_L_114.drop 4).head?.all (fun alt => rf_run nm_cl nm_ct en_xs 8 xx_L kc_L cu_L po_L (some .boolean) 1 0 98 16364 (some mu_L_114) 5000 true 1229 alt) = true := by decide +kernel
theorem ck_L_b_114_5 : (al_L_114.drop 5).head?.all (fun alt => rf_run nm_cl nm_ct en_xs 8 xx_L kc_L cu_L po_L (some .boolean) 1 0 98 16364 (some mu_L_114) 5000 true 1229 alt) = true := by decide +kernel
theorem ck_L_b_114_6 : (al_L_114.drop 6).head?.all (fun alt => rf_run nm_cl nm_ct en_xs 8 xx_L kc_L cu_L po_L (some .boolean) 1 0 98 16364 (some mu_L_114) 5000 true 1229 alt) = true := by decide +kernel
theorem ck_L_b_114_7 : (al_L_114.drop 7).head?.all (fun alt => rf_run nm_cl nm_ct en_xs 8 xx_L kc_L cu_L po_L (some .boolean) 1 0 98 16364 (some mu_L_114) 5000 true 1229 alt) = true := by decide +kernel
theorem ck_L_c_114 : ∀ i, i < 8 → (al_L_114.drop i).head?.all (fun alt => rf_run nm_cl nm_ct en_xs 8 xx_L kc_L cu_L po_L (some .boolean) 1 0 98 16364 (some mu_L_114) 5000 true 1229 alt) = true
  | 0, _ => ck_L_b_114_0
  | 1, _ => ck_L_b_114_1
  | 2, _ => ck_L_b_114_2
  | 3, _ => ck_L_b_114_3
  | 4, _ => ck_L_b_114_4
  | 5, _ => ck_L_b_114_5
  | 6, _ => ck_L_b_114_6
  | 7, _ => ck_L_b_114_7
  | i + 8, h => absurd h (by omega)
theorem ck_L_n_114 : (al_L_114.drop 8).isEmpty = true := by decide +kernel
theorem ck_L_b_115_0 : (al_L_115.drop 0).head?.all (fun alt => rf_run nm_cl nm_ct en_xs 8 xx_L kc_L cu_L po_L (some .boolean) 1 0 98 16364 (some mu_L_115) 5000 true 1252 alt) = true := by decide +kernel
theorem ck_L_c_115 : ∀ i, i < 1 → (al_L_115.drop i).head?.all (fun alt => rf_run nm_cl nm_ct en_xs 8 xx_L kc_L cu_L po_L (some .boolean) 1 0 98 16364 (some mu_L_115) 5000 true 1252 alt) = true
  | 0, _ => ck_L_b_115_0
  | i + 1, h => absurd h (by omega)
theorem ck_L_n_115 : (al_L_115.drop 1).isEmpty = true := by decide +kernel
theorem ck_L_b_116_0 : (al_L_116.drop 0).head?.all (fun alt => rf_run nm_cl nm_ct en_xs 8 xx_L kc_L cu_L po_L (some .boolean) 1 0 98 16364 (some mu_L_116) 5000 true 1252 alt) = true := by decide +kernel
theorem ck_L_c_116 : ∀ i, i < 1 → (al_L_116.drop i).head?.all (fun alt => rf_run nm_cl nm_ct en_xs 8 xx_L kc_L cu_L po_L (some .boolean) 1 0 98 16364 (some mu_L_116) 5000 true 1252 alt) = true
  | 0, _ => ck_L_b_116_0
  | i + 1, h => absurd h (by omega)
theorem ck_L_n_116 : (al_L_116.drop 1).isEmpty = true := by decide +kernel
theorem ck_L_b_117_0 : (al_L_117.drop 0).head?.all (fun alt => rf_run nm_cl nm_ct en_xs 8 xx_L kc_L cu_L po_L (some .boolean) 1 0 98 16364 (some mu_L_117) 5000 true 1252 alt) = true := by decide +kernel
theorem ck_L_c_117 : ∀ i, i < 1 → (al_L_117.drop i).head?.all (fun alt => rf_run nm_cl nm_ct en_xs 8 xx_L kc_L cu_L po_L (some .boolean) 1 0 98 16364 (some mu_L_117) 5000 true 1252 alt) = true
  | 0, _ => ck_L_b_117_0
  | i + 1, h => absurd h (by omega)
theorem ck_L_n_117 : (al_L_117.drop 1).isEmpty = true := by decide +kernel
theorem ck_L_b_118_0 : (al_L_118.drop 0).head?.all (fun alt => rf_run nm_cl nm_ct en_xs 8 xx_L kc_L cu_L po_L (some .boolean) 1 0 98 16364 (some mu_L_118) 5000 true 1252 alt) = true := by decide +kernel
theorem ck_L_c_118 : ∀ i, i < 1 → (al_L_118.drop i).head?.all (fun alt => rf_run nm_cl nm_ct en_xs 8 xx_L kc_L cu_L po_L (some .boolean) 1 0 98 16364 (some mu_L_118) 5000 true 1252 alt) = true
  | 0, _ => ck_L_b_118_0
  | i + 1, h => absurd h (by omega)
theorem ck_L_n_118 : (al_L_118.drop 1).isEmpty = true := by decide +kernel
theorem ck_L_b_119_0 : (al_L_119.drop 0).head?.all (fun alt => rf_run nm_cl nm_ct en_xs 8 xx_L kc_L cu_L po_L (some .boolean) 1 0 98 16364 (some mu_L_119) 5000 true 1252 alt) = true := by decide +kernel
theorem ck_L_c_119 : ∀ i, i < 1 → (al_L_119.drop i).head?.all (fun alt => rf_run nm_cl nm_ct en_xs 8 xx_L kc_L cu_L po_L (some .boolean) 1 0 98 16364 (some mu_L_119) 5000 true 1252 alt) = true
  | 0, _ => ck_L_b_119_0
  | i + 1, h => absurd h (by omega)
theorem ck_L_n_119 : (al_L_119.drop 1).isEmpty = true := by decide +kernel
theorem ck_L_b_120_0 : (al_L_120.drop 0).head?.all (fun alt => rf_run nm_cl nm_ct en_xs 8 xx_L kc_L cu_L po_L (some .boolean) 1 0 98 16364 (some mu_L_120) 5000 true 1252 alt) = true := by decide +kernel
theorem ck_L_c_120 : ∀ i, i < 1 → (al_L_120.drop i).head?.all (fun alt => rf_run nm_cl nm_ct en_xs 8 xx_L kc_L cu_L po_L (some .boolean) 1 0 98 16364 (some mu_L_120) 5000 true 1252 alt) = true
  | 0, _ => ck_L_b_120_0
  | i + 1, h => absurd h (by omega)
theorem ck_L_n_120 : (al_L_120.drop 1).isEmpty = true := by decide +kernel
theorem ck_L_b_121_0 : (al_L_121.drop 0).head?.all (fun alt => rf_run nm_cl nm_ct en_xs 8 xx_L kc_L cu_L po_L (some .boolean) 1 0 98 16364 (some mu_L_121) 5000 true 1252 alt) = true := by decide +kernel
theorem ck_L_c_121 : ∀ i, i < 1 → (al_L_121.drop i).head?.all (fun alt => rf_run nm_cl nm_ct en_xs 8 xx_L kc_L cu_L po_L (some .boolean) 1 0 98 16364 (some mu_L_121) 5000 true 1252 alt) = true
  | 0, _ => ck_L_b_121_0
  | i + 1, h => absurd h (by omega)
theorem ck_L_n_121 : (al_L_121.drop 1).isEmpty = true := by decide +kernel
theorem ck_L_b_122_0 : (al_L_122.drop 0).head?.all (fun alt => rf_run nm_cl nm_ct en_xs 8 xx_L kc_L cu_L po_L (some .boolean) 1 0 98 16364 (some mu_L_122) 5000 true 1252 alt) = true := by decide +kernel
theorem ck_L_c_122 : ∀ i, i < 1 → (al_L_122.drop i).head?.all (fun alt => rf_run nm_cl nm_ct en_xs 8 xx_L kc_L cu_L po_L (some .boolean) 1 0 98 16364 (some mu_L_122) 5000 true 1252 alt) = true
  | 0, _ => ck_L_b_122_0
  | i + 1, h => absurd h (by omega)
theorem ck_L_n_122 : (al_L_122.drop 1).isEmpty = true := by decide +kernel
theorem ck_L_b_123_0 : (al_L_123.drop 0).head?.all (fun alt => rf_run nm_cl nm_ct en_xs 8 xx_L kc_L cu_L po_L (some .boolean) 1 0 98 16364 (some mu_L_123) 5000 true 1256 alt) = true := by decide +kernel
theorem ck_L_c_123 : ∀ i, i < 1 → (al_L_123.drop i).head?.all (fun alt => rf_run nm_cl nm_ct en_xs 8 xx_L kc_L cu_L po_L (some .boolean) 1 0 98 16364 (some mu_L_123) 5000 true 1256 alt) = true
  | 0, _ => ck_L_b_123_0
  | i + 1, h => absurd h (by omega)
theorem ck_L_n_123 : (al_L_123.drop 1).isEmpty = true := by decide +kernel
theorem ck_L_b_124_0 : (al_L_124.drop 0).head?.all (fun alt => rf_run nm_cl nm_ct en_xs 8 xx_L kc_L cu_L po_L (some .boolean) 1 0 98 16364 (some mu_L_124) 5000 true 1325 alt) = true := by decide +kernel
theorem ck_L_c_124 : ∀ i, i < 1 → (al_L_124.drop i).head?.all (fun alt => rf_run nm_cl nm_ct en_xs 8 xx_L kc_L cu_L po_L (some .boolean) 1 0 98 16364 (some mu_L_124) 5000 true 1325 alt) = true
  | 0, _ => ck_L_b_124_0
  | i + 1, h => absurd h (by omega)
theorem ck_L_n_124 : (al_L_124.drop 1).isEmpty = true := by decide +kernel
theorem ck_L_b_125_0 : (al_L_125.drop 0).head?.all (fun alt => rf_run nm_cl nm_ct en_xs 8 xx_L kc_L cu_L po_L (some .boolean) 1 0 98 16364 (some mu_L_125) 5000 true 1325 alt) = true := by decide +kernel
theorem ck_L_c_125 : ∀ i, i < 1 → (al_L_125.drop i).head?.all (fun alt => rf_run nm_cl nm_ct en_xs 8 xx_L kc_L cu_L po_L (some .boolean) 1 0 98 16364 (some mu_L_125) 5000 true 1325 alt) = true
  | 0, _ => ck_L_b_125_0
  | i + 1, h => absurd h (by omega)
theorem ck_L_n_125 : (al_L_125.drop 1).isEmpty = true := by decide +kernel
theorem ck_L_b_126_0 : (al_L_126.drop 0).head?.all (fun alt => rf_run nm_cl nm_ct en_xs 8 xx_L kc_L cu_L po_L (some .boolean) 1 0 98 16364 (some mu_L_126) 5000 true 1325 alt) = true := by decide +kernel
theorem ck_L_c_126 : ∀ i, i < 1 → (al_L_126.drop i).head?.all (fun alt => rf_run nm_cl nm_ct en_xs 8 xx_L kc_L cu_L po_L (some .boolean) 1 0 98 16364 (some mu_L_126) 5000 true 1325 alt) = true
  | 0, _ => ck_L_b_126_0
  | i + 1, h => absurd h (by omega)
theorem ck_L_n_126 : (al_L_126.drop 1).isEmpty = true := by decide +kernel
theorem ck_L_b_127_0 : (al_L_127.drop 0).head?.all (fun alt => rf_run nm_cl nm_ct en_xs 8 xx_L kc_L cu_L po_L (some .boolean) 1 0 98 16364 (some mu_L_127) 5000 true 1325 alt) = true := by decide +kernel
theorem ck_L_c_127 : ∀ i, i < 1 → (al_L_127.drop i).head?.all (fun alt => rf_run nm_cl nm_ct en_xs 8 xx_L kc_L cu_L po_L (some .boolean) 1 0 98 16364 (some mu_L_127) 5000 true 1325 alt) = true
  | 0, _ => ck_L_b_127_0
  | i + 1, h => absurd h (by omega)
theorem ck_L_n_127 : (al_L_127.drop 1).isEmpty = true := by decide +kernel
theorem ck_L_b_128_0 : (al_L_128.drop 0).head?.all (fun alt => rf_run nm_cl nm_ct en_xs 8 xx_L kc_L cu_L po_L (some .boolean) 1 0 98 16364 (some mu_L_128) 5000 true 1325 alt) = true := by decide +kernel
theorem ck_L_c_128 : ∀ i, i < 1 → (al_L_128.drop i).head?.all (fun alt => rf_run nm_cl nm_ct en_xs 8 xx_L kc_L cu_L po_L (some .boolean) 1 0 98 16364 (some mu_L_128) 5000 true 1325 alt) = true
  | 0, _ => ck_L_b_128_0
  | i + 1, h => absurd h (by omega)
theorem ck_L_n_128 : (al_L_128.drop 1).isEmpty = true := by decide +kernel
theorem ck_L_b_129_0 : (al_L_129.drop 0).head?.all (fun alt => rf_run nm_cl nm_ct en_xs 8 xx_L kc_L cu_L po_L (some .boolean) 1 0 98 16364 (some mu_L_129) 5000 true 1325 alt) = true := by decide +kernel
theorem ck_L_c_129 : ∀ i, i < 1 → (al_L_129.drop i).head?.all (fun alt => rf_run nm_cl nm_ct en_xs 8 xx_L kc_L cu_L po_L (some .boolean) 1 0 98 16364 (some mu_L_129) 5000 true 1325 alt) = true
  | 0, _ => ck_L_b_129_0
  | i + 1, h => absurd h (by omega)
theorem ck_L_n_129 : (al_L_129.drop 1).isEmpty = true := by decide +kernel
theorem ck_L_b_130_0 : (al_L_130.drop 0).head?.all (fun alt => rf_run nm_cl nm_ct en_xs 8 xx_L kc_L cu_L po_L (some .boolean) 1 0 98 16364 (some mu_L_130) 5000 true 1325 alt) = true := by decide +kernel
theorem ck_L_c_130 : ∀ i, i < 1 → (al_L_130.drop i).head?.all (fun alt => rf_run nm_cl nm_ct en_xs 8 xx_L kc_L cu_L po_L (some .boolean) 1 0 98 16364 (some mu_L_130) 5000 true 1325 alt) = true
  | 0, _ => ck_L_b_130_0
  | i + 1, h => absurd h (by omega)
theorem ck_L_n_130 : (al_L_130.drop 1).isEmpty = true := by decide +kernel
theorem ck_L_b_131_0 : (al_L_131.drop 0).head?.all (fun alt => rf_run nm_cl nm_ct en_xs 8 xx_L kc_L cu_L po_L (some .boolean) 1 0 98 16364 (some mu_L_131) 5000 true 1325 alt) = true := by decide +kernel
theorem ck_L_c_131 : ∀ i, i < 1 → (al_L_131.drop i).head?.all (fun alt => rf_run nm_cl nm_ct en_xs 8 xx_L kc_L cu_L po_L (some .boolean) 1 0 98 16364 (some mu_L_131) 5000 true 1325 alt) = true
  | 0, _ => ck_L_b_131_0
  | i + 1, h => absurd h (by omega)
theorem ck_L_n_131 : (al_L_131.drop 1).isEmpty = true := by decide +kernel
theorem ck_L_b_132_0 : (al_L_132.drop 0).head?.all (fun alt => rf_run nm_cl nm_ct en_xs 8 xx_L kc_L cu_L po_L (some .boolean) 1 0 98 16364 (some mu_L_132) 5000 true 1325 alt) = true := by decide +kernel
theorem ck_L_c_132 : ∀ i, i < 1 → (al_L_132.drop i).head?.all (fun alt => rf_run nm_cl nm_ct en_xs 8 xx_L kc_L cu_L po_L (some .boolean) 1 0 98 16364 (some mu_L_132) 5000 true 1325 alt) = true
  | 0, _ => ck_L_b_132_0
  | i + 1, h => absurd h (by omega)
theorem ck_L_n_132 : (al_L_132.drop 1).isEmpty = true := by decide +kernel
theorem ck_L_b_133_0 : (al_L_133.drop 0).head?.all (fun alt => rf_run nm_cl nm_ct en_xs 8 xx_L kc_L cu_L po_L (some .boolean) 1 0 98 16364 (some mu_L_133) 5000 true 1325 alt) = true := by decide +kernel
theorem ck_L_c_133 : ∀ i, i < 1 → (al_L_133.drop i).head?.all (fun alt => rf_run nm_cl nm_ct en_xs 8 xx_L kc_L cu_L po_L (some .boolean) 1 0 98 16364 (some mu_L_133) 5000 true 1325 alt) = true
  | 0, _ => ck_L_b_133_0
  | i + 1, h => absurd h (by omega)
theorem ck_L_n_133 : (al_L_133.drop 1).isEmpty = true := by decide +kernel
theorem ck_L_b_134_0 : (al_L_134.drop 0).head?.all (fun alt => rf_run nm_cl nm_ct en_xs 8 xx_L kc_L cu_L po_L (some .boolean) 1 0 98 16364 (some mu_L_134) 5000 true 1325 alt) = true := by decide +kernel
theorem ck_L_c_134 : ∀ i, i < 1 → (al_L_134.drop i).head?.all (fun alt => rf_run nm_cl nm_ct en_xs 8 xx_L kc_L cu_L po_L (some .boolean) 1 0 98 16364 (some mu_L_134) 5000 true 1325 alt) = true
  | 0, _ => ck_L_b_134_0
  | i + 1, h => absurd h (by omega)
theorem ck_L_n_134 : (al_L_134.drop 1).isEmpty = true := by decide +kernel
theorem ck_L_b_135_0 : (al_L_135.drop 0).head?.all (fun alt => rf_run nm_cl nm_ct en_xs 8 xx_L kc_L cu_L po_L (some .boolean) 1 0 98 16364 (some mu_L_135) 5000 true 1325 alt) = true := by decide +kernel
theorem ck_L_c_135 : ∀ i, i < 1 → (al_L_135.drop i).head?.all (fun alt => rf_run nm_cl nm_ct en_xs 8 xx_L kc_L cu_L po_L (some .boolean) 1 0 98 16364 (some mu_L_135) 5000 true 1325 alt) = true
  | 0, _ => ck_L_b_135_0
  | i + 1, h => absurd h (by omega)
theorem ck_L_n_135 : (al_L_135.drop 1).isEmpty = true := by decide +kernel
theorem ck_L_b_136_0 : (al_L_136.drop 0).head?.all (fun alt => rf_run nm_cl nm_ct en_xs 8 xx_L kc_L cu_L po_L (some .boolean) 1 0 98 16364 (some mu_L_136) 5000 true 1329 alt) = true := by decide +kernel
theorem ck_L_c_136 : ∀ i, i < 1 → (al_L_136.drop i).head?.all (fun alt => rf_run nm_cl nm_ct en_xs 8 xx_L kc_L cu_L po_L (some .boolean) 1 0 98 16364 (some mu_L_136) 5000 true 1329 alt) = true
  | 0, _ => ck_L_b_136_0
  | i + 1, h => absurd h (by omega)
theorem ck_L_n_136 : (al_L_136.drop 1).isEmpty = true := by decide +kernel
theorem ck_L_b_137_0 : (al_L_137.drop 0).head?.all (fun alt => rf_run nm_cl nm_ct en_xs 8 xx_L kc_L cu_L po_L (some .boolean) 1 0 98 16364 (some mu_L_137) 5000 true 1358 alt) = true := by decide +kernel
theorem ck_L_c_137 : ∀ i, i < 1 → (al_L_137.drop i).head?.all (fun alt => rf_run nm_cl nm_ct en_xs 8 xx_L kc_L cu_L po_L (some .boolean) 1 0 98 16364 (some mu_L_137) 5000 true 1358 alt) = true
  | 0, _ => ck_L_b_137_0
  | i + 1, h => absurd h (by omega)
theorem ck_L_n_137 : (al_L_137.drop 1).isEmpty = true := by decide +kernel
theorem ck_L_b_138_0 : (al_L_138.drop 0).head?.all (fun alt => rf_run nm_cl nm_ct en_xs 8 xx_L kc_L cu_L po_L (some .boolean) 1 0 98 16364 (some mu_L_138) 5000 true 1358 alt) = true := by decide +kernel
theorem ck_L_c_138 : ∀ i, i < 1 → (al_L_138.drop i).head?.all (fun alt => rf_run nm_cl nm_ct en_xs 8 xx_L kc_L cu_L po_L (some .boolean) 1 0 98 16364 (some mu_L_138) 5000 true 1358 alt) = true
  | 0, _ => ck_L_b_138_0
  | i + 1, h => absurd h (by omega)
theorem ck_L_n_138 : (al_L_138.drop 1).isEmpty = true := by decide +kernel
theorem ck_L_b_139_0 : (al_L_139.drop 0).head?.all (fun alt => rf_run nm_cl nm_ct en_xs 8 xx_L kc_L cu_L po_L (some .boolean) 1 0 98 16364 (some mu_L_139) 5000 true 1358 alt) = true := by decide +kernel
theorem ck_L_c_139 : ∀ i, i < 1 → (al_L_139.drop i).head?.all (fun alt => rf_run nm_cl nm_ct en_xs 8 xx_L kc_L cu_L po_L (some .boolean) 1 0 98 16364 (some mu_L_139) 5000 true 1358 alt) = true
  | 0, _ => ck_L_b_139_0
  | i + 1, h => absurd h (by omega)
theorem ck_L_n_139 : (al_L_139.drop 1).isEmpty = true := by decide +kernel
theorem ck_L_b_140_0 : (al_L_140.drop 0).head?.all (fun alt => rf_run nm_cl nm_ct en_xs 8 xx_L kc_L cu_L po_L (some .boolean) 1 0 98 16364 (some mu_L_140) 5000 true 1358 alt) = true := by decide +kernel
theorem ck_L_c_140 : ∀ i, i < 1 → (al_L_140.drop i).head?.all (fun alt => rf_run nm_cl nm_ct en_xs 8 xx_L kc_L cu_L po_L (some .boolean) 1 0 98 16364 (some mu_L_140) 5000 true 1358 alt) = true
  | 0, _ => ck_L_b_140_0
  | i + 1, h => absurd h (by omega)
theorem ck_L_n_140 : (al_L_140.drop 1).isEmpty = true := by decide +kernel
theorem ck_L_b_141_0 : (al_L_141.drop 0).head?.all (fun alt => rf_run nm_cl nm_ct en_xs 8 xx_L kc_L cu_L po_L (some .boolean) 1 0 98 16364 (some mu_L_141) 5000 true 1358 alt) = true := by decide +kernel
theorem ck_L_c_141 : ∀ i, i < 1 → (al_L_141.drop i).head?.all (fun alt => rf_run nm_cl nm_ct en_xs 8 xx_L kc_L cu_L po_L (some .boolean) 1 0 98 16364 (some mu_L_141) 5000 true 1358 alt) = true
  | 0, _ => ck_L_b_141_0
  | i + 1, h => absurd h (by omega)
theorem ck_L_n_141 : (al_L_141.drop 1).isEmpty = true := by decide +kernel
theorem ck_L_b_142_0 : (al_L_142.drop 0).head?.all (fun alt => rf_run nm_cl nm_ct en_xs 8 xx_L kc_L cu_L po_L (some .boolean) 1 0 98 16364 (some mu_L_142) 5000 true 1358 alt) = true := by decide +kernel
theorem ck_L_c_142 : ∀ i, i < 1 → (al_L_142.drop i).head?.all (fun alt => rf_run nm_cl nm_ct en_xs 8 xx_L kc_L cu_L po_L (some .boolean) 1 0 98 16364 (some mu_L_142) 5000 true 1358 alt) = true
  | 0, _ => ck_L_b_142_0
  | i + 1, h => absurd h (by omega)
theorem ck_L_n_142 : (al_L_142.drop 1).isEmpty = true := by decide +kernel
