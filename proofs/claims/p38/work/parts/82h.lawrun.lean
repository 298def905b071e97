/-! the law: its checks -/
theorem ck_L_b_57_0 : (al_L_57.drop 0).head?.all (fun alt => rf_run nm_cl nm_ct en_xs 8 xx_L kc_L cu_L po_L (some .boolean) 1 0 98 16364 (some mu_L_57) 5000 true 1252 alt) = true := by decide +kernel
theorem ck_L_c_57 : ∀ i, i < 1 → (al_L_57.drop i).head?.all (fun alt => rf_run nm_cl nm_ct en_xs 8 xx_L kc_L cu_L po_L (some .boolean) 1 0 98 16364 (some mu_L_57) 5000 true 1252 alt) = true
  | 0, _ => ck_L_b_57_0
  | i + 1, h => absurd h (by omega)
theorem ck_L_n_57 : (al_L_57.drop 1).isEmpty = true := by decide +kernel
theorem ck_L_b_58_0 : (al_L_58.drop 0).head?.all (fun alt => rf_run nm_cl nm_ct en_xs 8 xx_L kc_L cu_L po_L (some .boolean) 1 0 98 16364 (some mu_L_58) 5000 true 1252 alt) = true := by decide +kernel
theorem ck_L_c_58 : ∀ i, i < 1 → (al_L_58.drop i).head?.all (fun alt => rf_run nm_cl nm_ct en_xs 8 xx_L kc_L cu_L po_L (some .boolean) 1 0 98 16364 (some mu_L_58) 5000 true 1252 alt) = true
  | 0, _ => ck_L_b_58_0
  | i + 1, h => absurd h (by omega)
theorem ck_L_n_58 : (al_L_58.drop 1).isEmpty = true := by decide +kernel
theorem ck_L_b_59_0 : (al_L_59.drop 0).head?.all (fun alt => rf_run nm_cl nm_ct en_xs 8 xx_L kc_L cu_L po_L (some .boolean) 1 0 98 16364 (some mu_L_59) 5000 true 1256 alt) = true := by decide +kernel
theorem ck_L_c_59 : ∀ i, i < 1 → (al_L_59.drop i).head?.all (fun alt => rf_run nm_cl nm_ct en_xs 8 xx_L kc_L cu_L po_L (some .boolean) 1 0 98 16364 (some mu_L_59) 5000 true 1256 alt) = true
  | 0, _ => ck_L_b_59_0
  | i + 1, h => absurd h (by omega)
theorem ck_L_n_59 : (al_L_59.drop 1).isEmpty = true := by decide +kernel
theorem ck_L_b_60_0 : (al_L_60.drop 0).head?.all (fun alt => rf_run nm_cl nm_ct en_xs 8 xx_L kc_L cu_L po_L (some .boolean) 1 0 98 16364 (some mu_L_60) 5000 true 1329 alt) = true := by decide +kernel
theorem ck_L_c_60 : ∀ i, i < 1 → (al_L_60.drop i).head?.all (fun alt => rf_run nm_cl nm_ct en_xs 8 xx_L kc_L cu_L po_L (some .boolean) 1 0 98 16364 (some mu_L_60) 5000 true 1329 alt) = true
  | 0, _ => ck_L_b_60_0
  | i + 1, h => absurd h (by omega)
theorem ck_L_n_60 : (al_L_60.drop 1).isEmpty = true := by decide +kernel
theorem ck_L_b_61_0 : (al_L_61.drop 0).head?.all (fun alt => rf_run nm_cl nm_ct en_xs 8 xx_L kc_L cu_L po_L (some .boolean) 1 0 98 16364 (some mu_L_61) 5000 true 1362 alt) = true := by decide +kernel
theorem ck_L_c_61 : ∀ i, i < 1 → (al_L_61.drop i).head?.all (fun alt => rf_run nm_cl nm_ct en_xs 8 xx_L kc_L cu_L po_L (some .boolean) 1 0 98 16364 (some mu_L_61) 5000 true 1362 alt) = true
  | 0, _ => ck_L_b_61_0
  | i + 1, h => absurd h (by omega)
theorem ck_L_n_61 : (al_L_61.drop 1).isEmpty = true := by decide +kernel
theorem ck_L_b_62_0 : (al_L_62.drop 0).head?.all (fun alt => rf_run nm_cl nm_ct en_xs 8 xx_L kc_L cu_L po_L (some .boolean) 1 0 98 16364 (some mu_L_62) 5000 true 1420 alt) = true := by decide +kernel
theorem ck_L_c_62 : ∀ i, i < 1 → (al_L_62.drop i).head?.all (fun alt => rf_run nm_cl nm_ct en_xs 8 xx_L kc_L cu_L po_L (some .boolean) 1 0 98 16364 (some mu_L_62) 5000 true 1420 alt) = true
  | 0, _ => ck_L_b_62_0
  | i + 1, h => absurd h (by omega)
theorem ck_L_n_62 : (al_L_62.drop 1).isEmpty = true := by decide +kernel
theorem ck_L_b_63_0 : (al_L_63.drop 0).head?.all (fun alt => rf_run nm_cl nm_ct en_xs 8 xx_L kc_L cu_L po_L (some .boolean) 1 0 98 16364 (some mu_L_63) 5000 true 1420 alt) = true := by decide +kernel
theorem ck_L_c_63 : ∀ i, i < 1 → (al_L_63.drop i).head?.all (fun alt => rf_run nm_cl nm_ct en_xs 8 xx_L kc_L cu_L po_L (some .boolean) 1 0 98 16364 (some mu_L_63) 5000 true 1420 alt) = true
  | 0, _ => ck_L_b_63_0
  | i + 1, h => absurd h (by omega)
theorem ck_L_n_63 : (al_L_63.drop 1).isEmpty = true := by decide +kernel
theorem ck_L_c_64 : ∀ i, i < 0 → (al_L_64.drop i).head?.all (fun alt => rf_run nm_cl nm_ct en_xs 8 xx_L kc_L cu_L po_L (some .boolean) 1 0 98 16364 (some mu_L_64) 5000 true 1420 alt) = true
  | i + 0, h => absurd h (by omega)
theorem ck_L_n_64 : (al_L_64.drop 0).isEmpty = true := by decide +kernel
theorem ck_L_c_65 : ∀ i, i < 0 → (al_L_65.drop i).head?.all (fun alt => rf_run nm_cl nm_ct en_xs 8 xx_L kc_L cu_L po_L (some .boolean) 1 0 98 16364 (some mu_L_65) 5000 true 1420 alt) = true
  | i + 0, h => absurd h (by omega)
theorem ck_L_n_65 : (al_L_65.drop 0).isEmpty = true := by decide +kernel
theorem ck_L_c_66 : ∀ i, i < 0 → (al_L_66.drop i).head?.all (fun alt => rf_run nm_cl nm_ct en_xs 8 xx_L kc_L cu_L po_L (some .boolean) 1 0 98 16364 (some mu_L_66) 5000 true 1420 alt) = true
  | i + 0, h => absurd h (by omega)
theorem ck_L_n_66 : (al_L_66.drop 0).isEmpty = true := by decide +kernel
theorem ck_L_c_67 : ∀ i, i < 0 → (al_L_67.drop i).head?.all (fun alt => rf_run nm_cl nm_ct en_xs 8 xx_L kc_L cu_L po_L (some .boolean) 1 0 98 16364 (some mu_L_67) 5000 true 1420 alt) = true
  | i + 0, h => absurd h (by omega)
theorem ck_L_n_67 : (al_L_67.drop 0).isEmpty = true := by decide +kernel
theorem ck_L_c_68 : ∀ i, i < 0 → (al_L_68.drop i).head?.all (fun alt => rf_run nm_cl nm_ct en_xs 8 xx_L kc_L cu_L po_L (some .boolean) 1 0 98 16364 (some mu_L_68) 5000 true 1420 alt) = true
  | i + 0, h => absurd h (by omega)
theorem ck_L_n_68 : (al_L_68.drop 0).isEmpty = true := by decide +kernel
theorem ck_L_c_69 : ∀ i, i < 0 → (al_L_69.drop i).head?.all (fun alt => rf_run nm_cl nm_ct en_xs 8 xx_L kc_L cu_L po_L (some .boolean) 1 0 98 16364 (some mu_L_69) 5000 true 1420 alt) = true
  | i + 0, h => absurd h (by omega)
theorem ck_L_n_69 : (al_L_69.drop 0).isEmpty = true := by decide +kernel
theorem ck_L_c_70 : ∀ i, i < 0 → (al_L_70.drop i).head?.all (fun alt => rf_run nm_cl nm_ct en_xs 8 xx_L kc_L cu_L po_L (some .boolean) 1 0 98 16364 (some mu_L_70) 5000 true 1420 alt) = true
  | i + 0, h => absurd h (by omega)
theorem ck_L_n_70 : (al_L_70.drop 0).isEmpty = true := by decide +kernel
theorem ck_L_c_71 : ∀ i, i < 0 → (al_L_71.drop i).head?.all (fun alt => rf_run nm_cl nm_ct en_xs 8 xx_L kc_L cu_L po_L (some .boolean) 1 0 98 16364 (some mu_L_71) 5000 true 1420 alt) = true
  | i + 0, h => absurd h (by omega)
theorem ck_L_n_71 : (al_L_71.drop 0).isEmpty = true := by decide +kernel
theorem ck_L_c_72 : ∀ i, i < 0 → (al_L_72.drop i).head?.all (fun alt => rf_run nm_cl nm_ct en_xs 8 xx_L kc_L cu_L po_L (some .boolean) 1 0 98 16364 (some mu_L_72) 5000 true 1420 alt) = true
  | i + 0, h => absurd h (by omega)
theorem ck_L_n_72 : (al_L_72.drop 0).isEmpty = true := by decide +kernel
theorem ck_L_c_73 : ∀ i, i < 0 → (al_L_73.drop i).head?.all (fun alt => rf_run nm_cl nm_ct en_xs 8 xx_L kc_L cu_L po_L (some .boolean) 1 0 98 16364 (some mu_L_73) 5000 true 1420 alt) = true
  | i + 0, h => absurd h (by omega)
theorem ck_L_n_73 : (al_L_73.drop 0).isEmpty = true := by decide +kernel
theorem ck_L_c_74 : ∀ i, i < 0 → (al_L_74.drop i).head?.all (fun alt => rf_run nm_cl nm_ct en_xs 8 xx_L kc_L cu_L po_L (some .boolean) 1 0 98 16364 (some mu_L_74) 5000 true 1420 alt) = true
  | i + 0, h => absurd h (by omega)
theorem ck_L_n_74 : (al_L_74.drop 0).isEmpty = true := by decide +kernel
theorem ck_L_c_75 : ∀ i, i < 0 → (al_L_75.drop i).head?.all (fun alt => rf_run nm_cl nm_ct en_xs 8 xx_L kc_L cu_L po_L (some .boolean) 1 0 98 16364 (some mu_L_75) 5000 true 1420 alt) = true
  | i + 0, h => absurd h (by omega)
theorem ck_L_n_75 : (al_L_75.drop 0).isEmpty = true := by decide +kernel
theorem ck_L_c_76 : ∀ i, i < 0 → (al_L_76.drop i).head?.all (fun alt => rf_run nm_cl nm_ct en_xs 8 xx_L kc_L cu_L po_L (some .boolean) 1 0 98 16364 (some mu_L_76) 5000 true 1420 alt) = true
  | i + 0, h => absurd h (by omega)
theorem ck_L_n_76 : (al_L_76.drop 0).isEmpty = true := by decide +kernel
theorem ck_L_c_77 : ∀ i, i < 0 → (al_L_77.drop i).head?.all (fun alt => rf_run nm_cl nm_ct en_xs 8 xx_L kc_L cu_L po_L (some .boolean) 1 0 98 16364 (some mu_L_77) 5000 true 1420 alt) = true
  | i + 0, h => absurd h (by omega)
theorem ck_L_n_77 : (al_L_77.drop 0).isEmpty = true := by decide +kernel
theorem ck_L_c_78 : ∀ i, i < 0 → (al_L_78.drop i).head?.all (fun alt => rf_run nm_cl nm_ct en_xs 8 xx_L kc_L cu_L po_L (some .boolean) 1 0 98 16364 (some mu_L_78) 5000 true 1420 alt) = true
  | i + 0, h => absurd h (by omega)
theorem ck_L_n_78 : (al_L_78.drop 0).isEmpty = true := by decide +kernel
theorem ck_L_c_79 : ∀ i, i < 0 → (al_L_79.drop i).head?.all (fun alt => rf_run nm_cl nm_ct en_xs 8 xx_L kc_L cu_L po_L (some .boolean) 1 0 98 16364 (some mu_L_79) 5000 true 1420 alt) = true
  | i + 0, h => absurd h (by omega)
theorem ck_L_n_79 : (al_L_79.drop 0).isEmpty = true := by decide +kernel
theorem ck_L_c_80 : ∀ i, i < 0 → (al_L_80.drop i).head?.all (fun alt => rf_run nm_cl nm_ct en_xs 8 xx_L kc_L cu_L po_L (some .boolean) 1 0 98 16364 (some mu_L_80) 5000 true 1420 alt) = true
  | i + 0, h => absurd h (by omega)
theorem ck_L_n_80 : (al_L_80.drop 0).isEmpty = true := by decide +kernel
theorem ck_L_b_81_0 : (al_L_81.drop 0).head?.all (fun alt => rf_run nm_cl nm_ct en_xs 8 xx_L kc_L cu_L po_L (some .boolean) 1 0 98 16364 (some mu_L_81) 5000 true 1420 alt) = true := by decide +kernel
theorem ck_L_c_81 : ∀ i, i < 1 → (al_L_81.drop i).head?.all (fun alt => rf_run nm_cl nm_ct en_xs 8 xx_L kc_L cu_L po_L (some .boolean) 1 0 98 16364 (some mu_L_81) 5000 true 1420 alt) = true
  | 0, _ => ck_L_b_81_0
  | i + 1, h => absurd h (by omega)
theorem ck_L_n_81 : (al_L_81.drop 1).isEmpty = true := by decide +kernel
theorem ck_L_c_82 : ∀ i, i < 0 → (al_L_82.drop i).head?.all (fun alt => rf_run nm_cl nm_ct en_xs 8 xx_L kc_L cu_L po_L (some .boolean) 1 0 98 16364 (some mu_L_82) 5000 true 1420 alt) = true
  | i + 0, h => absurd h (by omega)
theorem ck_L_n_82 : (al_L_82.drop 0).isEmpty = true := by decide +kernel
theorem ck_L_c_83 : ∀ i, i < 0 → (al_L_83.drop i).head?.all (fun alt => rf_run nm_cl nm_ct en_xs 8 xx_L kc_L cu_L po_L (some .boolean) 1 0 98 16364 (some mu_L_83) 5000 true 1420 alt) = true
  | i + 0, h => absurd h (by omega)
theorem ck_L_n_83 : (al_L_83.drop 0).isEmpty = true := by decide +kernel
theorem ck_L_c_84 : ∀ i, i < 0 → (al_L_84.drop i).head?.all (fun alt => rf_run nm_cl nm_ct en_xs 8 xx_L kc_L cu_L po_L (some .boolean) 1 0 98 16364 (some mu_L_84) 5000 true 1420 alt) = true
  | i + 0, h => absurd h (by omega)
theorem ck_L_n_84 : (al_L_84.drop 0).isEmpty = true := by decide +kernel
theorem ck_L_c_85 : ∀ i, i < 0 → (al_L_85.drop i).head?.all (fun alt => rf_run nm_cl nm_ct en_xs 8 xx_L kc_L cu_L po_L (some .boolean) 1 0 98 16364 (some mu_L_85) 5000 true 1420 alt) = true
  | i + 0, h => absurd h (by omega)
theorem ck_L_n_85 : (al_L_85.drop 0).isEmpty = true := by decide +kernel
theorem ck_L_c_86 : ∀ i, i < 0 → (al_L_86.drop i).head?.all (fun alt => rf_run nm_cl nm_ct en_xs 8 xx_L kc_L cu_L po_L (some .boolean) 1 0 98 16364 (some mu_L_86) 5000 true 1420 alt) = true
  | i + 0, h => absurd h (by omega)
theorem ck_L_n_86 : (al_L_86.drop 0).isEmpty = true := by decide +kernel
theorem ck_L_c_87 : ∀ i, i < 0 → (al_L_87.drop i).head?.all (fun alt => rf_run nm_cl nm_ct en_xs 8 xx_L kc_L cu_L po_L (some .boolean) 1 0 98 16364 (some mu_L_87) 5000 true 1420 alt) = true
  | i + 0, h => absurd h (by omega)
theorem ck_L_n_87 : (al_L_87.drop 0).isEmpty = true := by decide +kernel
theorem ck_L_c_88 : ∀ i, i < 0 → (al_L_88.drop i).head?.all (fun alt => rf_run nm_cl nm_ct en_xs 8 xx_L kc_L cu_L po_L (some .boolean) 1 0 98 16364 (some mu_L_88) 5000 true 1420 alt) = true
  | i + 0, h => absurd h (by omega)
theorem ck_L_n_88 : (al_L_88.drop 0).isEmpty = true := by decide +kernel
theorem ck_L_c_89 : ∀ i, i < 0 → (al_L_89.drop i).head?.all (fun alt => rf_run nm_cl nm_ct en_xs 8 xx_L kc_L cu_L po_L (some .boolean) 1 0 98 16364 (some mu_L_89) 5000 true 1420 alt) = true
  | i + 0, h => absurd h (by omega)
theorem ck_L_n_89 : (al_L_89.drop 0).isEmpty = true := by decide +kernel
theorem ck_L_c_90 : ∀ i, i < 0 → (al_L_90.drop i).head?.all (fun alt => rf_run nm_cl nm_ct en_xs 8 xx_L kc_L cu_L po_L (some .boolean) 1 0 98 16364 (some mu_L_90) 5000 true 1420 alt) = true
  | i + 0, h => absurd h (by omega)
theorem ck_L_n_90 : (al_L_90.drop 0).isEmpty = true := by decide +kernel
theorem ck_L_b_91_0 : (al_L_91.drop 0).head?.all (fun alt => rf_run nm_cl nm_ct en_xs 8 xx_L kc_L cu_L po_L (some .boolean) 1 0 98 16364 (some mu_L_91) 5000 true 1420 alt) = true := by decide +kernel
theorem ck_L_c_91 : ∀ i, i < 1 → (al_L_91.drop i).head?.all (fun alt => rf_run nm_cl nm_ct en_xs 8 xx_L kc_L cu_L po_L (some .boolean) 1 0 98 16364 (some mu_L_91) 5000 true 1420 alt) = true
  | 0, _ => ck_L_b_91_0
  | i + 1, h => absurd h (by omega)
theorem ck_L_n_91 : (al_L_91.drop 1).isEmpty = true := by decide +kernel
theorem ck_L_b_92_0 : (al_L_92.drop 0).head?.all (fun alt => rf_run nm_cl nm_ct en_xs 8 xx_L kc_L cu_L po_L (some .boolean) 1 0 98 16364 (some mu_L_92) 5000 true 1420 alt) = true := by decide +kernel
theorem ck_L_c_92 : ∀ i, i < 1 → (al_L_92.drop i).head?.all (fun alt => rf_run nm_cl nm_ct en_xs 8 xx_L kc_L cu_L po_L (some .boolean) 1 0 98 16364 (some mu_L_92) 5000 true 1420 alt) = true
  | 0, _ => ck_L_b_92_0
  | i + 1, h => absurd h (by omega)
theorem ck_L_n_92 : (al_L_92.drop 1).isEmpty = true := by decide +kernel
theorem ck_L_b_93_0 : (al_L_93.drop 0).head?.all (fun alt => rf_run nm_cl nm_ct en_xs 8 xx_L kc_L cu_L po_L (some .boolean) 1 0 98 16364 (some mu_L_93) 5000 true 1420 alt) = true := by decide +kernel
theorem ck_L_c_93 : ∀ i, i < 1 → (al_L_93.drop i).head?.all (fun alt => rf_run nm_cl nm_ct en_xs 8 xx_L kc_L cu_L po_L (some .boolean) 1 0 98 16364 (some mu_L_93) 5000 true 1420 alt) = true
  | 0, _ => ck_L_b_93_0
  | i + 1, h => absurd h (by omega)
theorem ck_L_n_93 : (al_L_93.drop 1).isEmpty = true := by decide +kernel
theorem ck_L_c_94 : ∀ i, i < 0 → (al_L_94.drop i).head?.all (fun alt => rf_run nm_cl nm_ct en_xs 8 xx_L kc_L cu_L po_L (some .boolean) 1 0 98 16364 (some mu_L_94) 5000 true 1420 alt) = true
  | i + 0, h => absurd h (by omega)
theorem ck_L_n_94 : (al_L_94.drop 0).isEmpty = true := by decide +kernel
theorem ck_L_c_95 : ∀ i, i < 0 → (al_L_95.drop i).head?.all (fun alt => rf_run nm_cl nm_ct en_xs 8 xx_L kc_L cu_L po_L (some .boolean) 1 0 98 16364 (some mu_L_95) 5000 true 1420 alt) = true
  | i + 0, h => absurd h (by omega)
theorem ck_L_n_95 : (al_L_95.drop 0).isEmpty = true := by decide +kernel
theorem ck_L_c_96 : ∀ i, i < 0 → (al_L_96.drop i).head?.all (fun alt => rf_run nm_cl nm_ct en_xs 8 xx_L kc_L cu_L po_L (some .boolean) 1 0 98 16364 (some mu_L_96) 5000 true 1420 alt) = true
  | i + 0, h => absurd h (by omega)
theorem ck_L_n_96 : (al_L_96.drop 0).isEmpty = true := by decide +kernel
theorem ck_L_c_97 : ∀ i, i < 0 → (al_L_97.drop i).head?.all (fun alt => rf_run nm_cl nm_ct en_xs 8 xx_L kc_L cu_L po_L (some .boolean) 1 0 98 16364 (some mu_L_97) 5000 true 1420 alt) = true
  | i + 0, h => absurd h (by omega)
theorem ck_L_n_97 : (al_L_97.drop 0).isEmpty = true := by decide +kernel
theorem ck_L_c_98 : ∀ i, i < 0 → (al_L_98.drop i).head?.all (fun alt => rf_run nm_cl nm_ct en_xs 8 xx_L kc_L cu_L po_L (some .boolean) 1 0 98 16364 (some mu_L_98) 5000 true 1420 alt) = true
  | i + 0, h => absurd h (by omega)
theorem ck_L_n_98 : (al_L_98.drop 0).isEmpty = true := by decide +kernel
theorem ck_L_c_99 : ∀ i, i < 0 → (al_L_99.drop i).head?.all (fun alt => rf_run nm_cl nm_ct en_xs 8 xx_L kc_L cu_L po_L (some .boolean) 1 0 98 16364 (some mu_L_99) 5000 true 1420 alt) = true
  | i + 0, h => absurd h (by omega)
theorem ck_L_n_99 : (al_L_99.drop 0).isEmpty = true := by decide +kernel
theorem ck_L_c_100 : ∀ i, i < 0 → (al_L_100.drop i).head?.all (fun alt => rf_run nm_cl nm_ct en_xs 8 xx_L kc_L cu_L po_L (some .boolean) 1 0 98 16364 (some mu_L_100) 5000 true 1420 alt) = true
  | i + 0, h => absurd h (by omega)
theorem ck_L_n_100 : (al_L_100.drop 0).isEmpty = true := by decide +kernel
theorem ck_L_c_101 : ∀ i, i < 0 → (al_L_101.drop i).head?.all (fun alt => rf_run nm_cl nm_ct en_xs 8 xx_L kc_L cu_L po_L (some .boolean) 1 0 98 16364 (some mu_L_101) 5000 true 1420 alt) = true
  | i + 0, h => absurd h (by omega)
theorem ck_L_n_101 : (al_L_101.drop 0).isEmpty = true := by decide +kernel
theorem ck_L_b_102_0 : (al_L_102.drop 0).head?.all (fun alt => rf_run nm_cl nm_ct en_xs 8 xx_L kc_L cu_L po_L (some .boolean) 1 0 98 16364 (some mu_L_102) 5000 true 1420 alt) = true := by decide +kernel
theorem ck_L_c_102 : ∀ i, i < 1 → (al_L_102.drop i).head?.all (fun alt => rf_run nm_cl nm_ct en_xs 8 xx_L kc_L cu_L po_L (some .boolean) 1 0 98 16364 (some mu_L_102) 5000 true 1420 alt) = true
  | 0, _ => ck_L_b_102_0
  | i + 1, h => absurd h (by omega)
theorem ck_L_n_102 : (al_L_102.drop 1).isEmpty = true := by decide +kernel
theorem ck_L_c_103 : ∀ i, i < 0 → (al_L_103.drop i).head?.all (fun alt => rf_run nm_cl nm_ct en_xs 8 xx_L kc_L cu_L po_L (some .boolean) 1 0 98 16364 (some mu_L_103) 5000 true 1420 alt) = true
  | i + 0, h => absurd h (by omega)
theorem ck_L_n_103 : (al_L_103.drop 0).isEmpty = true := by decide +kernel
