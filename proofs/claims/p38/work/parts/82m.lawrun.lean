/-! the law: its checks -/
theorem ck_L_b_134_0 : (al_L_134.drop 0).head?.all (fun alt => rf_run nm_cl nm_ct en_xs 8 xx_L kc_L cu_L po_L (some .boolean) 1 0 98 16364 (some mu_L_134) 5000 true 1420 alt) = true := by decide +kernel
theorem ck_L_c_134 : ∀ i, i < 1 → (al_L_134.drop i).head?.all (fun alt => rf_run nm_cl nm_ct en_xs 8 xx_L kc_L cu_L po_L (some .boolean) 1 0 98 16364 (some mu_L_134) 5000 true 1420 alt) = true
  | 0, _ => ck_L_b_134_0
  | i + 1, h => absurd h (by omega)
theorem ck_L_n_134 : (al_L_134.drop 1).isEmpty = true := by decide +kernel
theorem ck_L_c_135 : ∀ i, i < 0 → (al_L_135.drop i).head?.all (fun alt => rf_run nm_cl nm_ct en_xs 8 xx_L kc_L cu_L po_L (some .boolean) 1 0 98 16364 (some mu_L_135) 5000 true 1420 alt) = true
  | i + 0, h => absurd h (by omega)
theorem ck_L_n_135 : (al_L_135.drop 0).isEmpty = true := by decide +kernel
theorem ck_L_c_136 : ∀ i, i < 0 → (al_L_136.drop i).head?.all (fun alt => rf_run nm_cl nm_ct en_xs 8 xx_L kc_L cu_L po_L (some .boolean) 1 0 98 16364 (some mu_L_136) 5000 true 1420 alt) = true
  | i + 0, h => absurd h (by omega)
theorem ck_L_n_136 : (al_L_136.drop 0).isEmpty = true := by decide +kernel
theorem ck_L_c_137 : ∀ i, i < 0 → (al_L_137.drop i).head?.all (fun alt => rf_run nm_cl nm_ct en_xs 8 xx_L kc_L cu_L po_L (some .boolean) 1 0 98 16364 (some mu_L_137) 5000 true 1420 alt) = true
  | i + 0, h => absurd h (by omega)
theorem ck_L_n_137 : (al_L_137.drop 0).isEmpty = true := by decide +kernel
theorem ck_L_c_138 : ∀ i, i < 0 → (al_L_138.drop i).head?.all (fun alt => rf_run nm_cl nm_ct en_xs 8 xx_L kc_L cu_L po_L (some .boolean) 1 0 98 16364 (some mu_L_138) 5000 true 1420 alt) = true
  | i + 0, h => absurd h (by omega)
theorem ck_L_n_138 : (al_L_138.drop 0).isEmpty = true := by decide +kernel
theorem ck_L_c_139 : ∀ i, i < 0 → (al_L_139.drop i).head?.all (fun alt => rf_run nm_cl nm_ct en_xs 8 xx_L kc_L cu_L po_L (some .boolean) 1 0 98 16364 (some mu_L_139) 5000 true 1420 alt) = true
  | i + 0, h => absurd h (by omega)
theorem ck_L_n_139 : (al_L_139.drop 0).isEmpty = true := by decide +kernel
theorem ck_L_c_140 : ∀ i, i < 0 → (al_L_140.drop i).head?.all (fun alt => rf_run nm_cl nm_ct en_xs 8 xx_L kc_L cu_L po_L (some .boolean) 1 0 98 16364 (some mu_L_140) 5000 true 1420 alt) = true
  | i + 0, h => absurd h (by omega)
theorem ck_L_n_140 : (al_L_140.drop 0).isEmpty = true := by decide +kernel
theorem ck_L_c_141 : ∀ i, i < 0 → (al_L_141.drop i).head?.all (fun alt => rf_run nm_cl nm_ct en_xs 8 xx_L kc_L cu_L po_L (some .boolean) 1 0 98 16364 (some mu_L_141) 5000 true 1420 alt) = true
  | i + 0, h => absurd h (by omega)
theorem ck_L_n_141 : (al_L_141.drop 0).isEmpty = true := by decide +kernel
theorem ck_L_c_142 : ∀ i, i < 0 → (al_L_142.drop i).head?.all (fun alt => rf_run nm_cl nm_ct en_xs 8 xx_L kc_L cu_L po_L (some .boolean) 1 0 98 16364 (some mu_L_142) 5000 true 1420 alt) = true
  | i + 0, h => absurd h (by omega)
theorem ck_L_n_142 : (al_L_142.drop 0).isEmpty = true := by decide +kernel
theorem ck_L_c_143 : ∀ i, i < 0 → (al_L_143.drop i).head?.all (fun alt => rf_run nm_cl nm_ct en_xs 8 xx_L kc_L cu_L po_L (some .boolean) 1 0 98 16364 (some mu_L_143) 5000 true 1420 alt) = true
  | i + 0, h => absurd h (by omega)
theorem ck_L_n_143 : (al_L_143.drop 0).isEmpty = true := by decide +kernel
theorem ck_L_b_144_0 : (al_L_144.drop 0).head?.all (fun alt => rf_run nm_cl nm_ct en_xs 8 xx_L kc_L cu_L po_L (some .boolean) 1 0 98 16364 (some mu_L_144) 5000 true 1420 alt) = true := by decide +kernel
theorem ck_L_c_144 : ∀ i, i < 1 → (al_L_144.drop i).head?.all (fun alt => rf_run nm_cl nm_ct en_xs 8 xx_L kc_L cu_L po_L (some .boolean) 1 0 98 16364 (some mu_L_144) 5000 true 1420 alt) = true
  | 0, _ => ck_L_b_144_0
  | i + 1, h => absurd h (by omega)
theorem ck_L_n_144 : (al_L_144.drop 1).isEmpty = true := by decide +kernel
theorem ck_L_b_145_0 : (al_L_145.drop 0).head?.all (fun alt => rf_run nm_cl nm_ct en_xs 8 xx_L kc_L cu_L po_L (some .boolean) 1 0 98 16364 (some mu_L_145) 5000 true 1420 alt) = true := by decide +kernel
theorem ck_L_c_145 : ∀ i, i < 1 → (al_L_145.drop i).head?.all (fun alt => rf_run nm_cl nm_ct en_xs 8 xx_L kc_L cu_L po_L (some .boolean) 1 0 98 16364 (some mu_L_145) 5000 true 1420 alt) = true
  | 0, _ => ck_L_b_145_0
  | i + 1, h => absurd h (by omega)
theorem ck_L_n_145 : (al_L_145.drop 1).isEmpty = true := by decide +kernel
theorem ck_L_b_146_0 : (al_L_146.drop 0).head?.all (fun alt => rf_run nm_cl nm_ct en_xs 8 xx_L kc_L cu_L po_L (some .boolean) 1 0 98 16364 (some mu_L_146) 5000 true 1420 alt) = true := by decide +kernel
theorem ck_L_c_146 : ∀ i, i < 1 → (al_L_146.drop i).head?.all (fun alt => rf_run nm_cl nm_ct en_xs 8 xx_L kc_L cu_L po_L (some .boolean) 1 0 98 16364 (some mu_L_146) 5000 true 1420 alt) = true
  | 0, _ => ck_L_b_146_0
  | i + 1, h => absurd h (by omega)
theorem ck_L_n_146 : (al_L_146.drop 1).isEmpty = true := by decide +kernel
theorem ck_L_c_147 : ∀ i, i < 0 → (al_L_147.drop i).head?.all (fun alt => rf_run nm_cl nm_ct en_xs 8 xx_L kc_L cu_L po_L (some .boolean) 1 0 98 16364 (some mu_L_147) 5000 true 1420 alt) = true
  | i + 0, h => absurd h (by omega)
theorem ck_L_n_147 : (al_L_147.drop 0).isEmpty = true := by decide +kernel
theorem ck_L_c_148 : ∀ i, i < 0 → (al_L_148.drop i).head?.all (fun alt => rf_run nm_cl nm_ct en_xs 8 xx_L kc_L cu_L po_L (some .boolean) 1 0 98 16364 (some mu_L_148) 5000 true 1420 alt) = true
  | i + 0, h => absurd h (by omega)
theorem ck_L_n_148 : (al_L_148.drop 0).isEmpty = true := by decide +kernel
theorem ck_L_c_149 : ∀ i, i < 0 → (al_L_149.drop i).head?.all (fun alt => rf_run nm_cl nm_ct en_xs 8 xx_L kc_L cu_L po_L (some .boolean) 1 0 98 16364 (some mu_L_149) 5000 true 1420 alt) = true
  | i + 0, h => absurd h (by omega)
theorem ck_L_n_149 : (al_L_149.drop 0).isEmpty = true := by decide +kernel
theorem ck_L_c_150 : ∀ i, i < 0 → (al_L_150.drop i).head?.all (fun alt => rf_run nm_cl nm_ct en_xs 8 xx_L kc_L cu_L po_L (some .boolean) 1 0 98 16364 (some mu_L_150) 5000 true 1420 alt) = true
  | i + 0, h => absurd h (by omega)
theorem ck_L_n_150 : (al_L_150.drop 0).isEmpty = true := by decide +kernel
theorem ck_L_c_151 : ∀ i, i < 0 → (al_L_151.drop i).head?.all (fun alt => rf_run nm_cl nm_ct en_xs 8 xx_L kc_L cu_L po_L (some .boolean) 1 0 98 16364 (some mu_L_151) 5000 true 1420 alt) = true
  | i + 0, h => absurd h (by omega)
theorem ck_L_n_151 : (al_L_151.drop 0).isEmpty = true := by decide +kernel
theorem ck_L_c_152 : ∀ i, i < 0 → (al_L_152.drop i).head?.all (fun alt => rf_run nm_cl nm_ct en_xs 8 xx_L kc_L cu_L po_L (some .boolean) 1 0 98 16364 (some mu_L_152) 5000 true 1420 alt) = true
  | i + 0, h => absurd h (by omega)
theorem ck_L_n_152 : (al_L_152.drop 0).isEmpty = true := by decide +kernel
theorem ck_L_c_153 : ∀ i, i < 0 → (al_L_153.drop i).head?.all (fun alt => rf_run nm_cl nm_ct en_xs 8 xx_L kc_L cu_L po_L (some .boolean) 1 0 98 16364 (some mu_L_153) 5000 true 1420 alt) = true
  | i + 0, h => absurd h (by omega)
theorem ck_L_n_153 : (al_L_153.drop 0).isEmpty = true := by decide +kernel
theorem ck_L_c_154 : ∀ i, i < 0 → (al_L_154.drop i).head?.all (fun alt => rf_run nm_cl nm_ct en_xs 8 xx_L kc_L cu_L po_L (some .boolean) 1 0 98 16364 (some mu_L_154) 5000 true 1420 alt) = true
  | i + 0, h => absurd h (by omega)
theorem ck_L_n_154 : (al_L_154.drop 0).isEmpty = true := by decide +kernel
theorem ck_L_b_155_0 : (al_L_155.drop 0).head?.all (fun alt => rf_run nm_cl nm_ct en_xs 8 xx_L kc_L cu_L po_L (some .boolean) 1 0 98 16364 (some mu_L_155) 5000 true 1420 alt) = true := by decide +kernel
theorem ck_L_c_155 : ∀ i, i < 1 → (al_L_155.drop i).head?.all (fun alt => rf_run nm_cl nm_ct en_xs 8 xx_L kc_L cu_L po_L (some .boolean) 1 0 98 16364 (some mu_L_155) 5000 true 1420 alt) = true
  | 0, _ => ck_L_b_155_0
  | i + 1, h => absurd h (by omega)
theorem ck_L_n_155 : (al_L_155.drop 1).isEmpty = true := by decide +kernel
theorem ck_L_c_156 : ∀ i, i < 0 → (al_L_156.drop i).head?.all (fun alt => rf_run nm_cl nm_ct en_xs 8 xx_L kc_L cu_L po_L (some .boolean) 1 0 98 16364 (some mu_L_156) 5000 true 1420 alt) = true
  | i + 0, h => absurd h (by omega)
theorem ck_L_n_156 : (al_L_156.drop 0).isEmpty = true := by decide +kernel
theorem ck_L_b_157_0 : (al_L_157.drop 0).head?.all (fun alt => rf_run nm_cl nm_ct en_xs 8 xx_L kc_L cu_L po_L (some .boolean) 1 0 98 16364 (some mu_L_157) 5000 true 1420 alt) = true := by decide +kernel
theorem ck_L_c_157 : ∀ i, i < 1 → (al_L_157.drop i).head?.all (fun alt => rf_run nm_cl nm_ct en_xs 8 xx_L kc_L cu_L po_L (some .boolean) 1 0 98 16364 (some mu_L_157) 5000 true 1420 alt) = true
  | 0, _ => ck_L_b_157_0
  | i + 1, h => absurd h (by omega)
theorem ck_L_n_157 : (al_L_157.drop 1).isEmpty = true := by decide +kernel
theorem ck_L_c_158 : ∀ i, i < 0 → (al_L_158.drop i).head?.all (fun alt => rf_run nm_cl nm_ct en_xs 8 xx_L kc_L cu_L po_L (some .boolean) 1 0 98 16364 (some mu_L_158) 5000 true 1420 alt) = true
  | i + 0, h => absurd h (by omega)
theorem ck_L_n_158 : (al_L_158.drop 0).isEmpty = true := by decide +kernel
theorem ck_L_b_159_0 : (al_L_159.drop 0).head?.all (fun alt => rf_run nm_cl nm_ct en_xs 8 xx_L kc_L cu_L po_L (some .boolean) 1 0 98 16364 (some mu_L_159) 5000 true 1420 alt) = true := by decide +kernel
theorem ck_L_c_159 : ∀ i, i < 1 → (al_L_159.drop i).head?.all (fun alt => rf_run nm_cl nm_ct en_xs 8 xx_L kc_L cu_L po_L (some .boolean) 1 0 98 16364 (some mu_L_159) 5000 true 1420 alt) = true
  | 0, _ => ck_L_b_159_0
  | i + 1, h => absurd h (by omega)
theorem ck_L_n_159 : (al_L_159.drop 1).isEmpty = true := by decide +kernel
theorem ck_L_c_160 : ∀ i, i < 0 → (al_L_160.drop i).head?.all (fun alt => rf_run nm_cl nm_ct en_xs 8 xx_L kc_L cu_L po_L (some .boolean) 1 0 98 16364 (some mu_L_160) 5000 true 1420 alt) = true
  | i + 0, h => absurd h (by omega)
theorem ck_L_n_160 : (al_L_160.drop 0).isEmpty = true := by decide +kernel
theorem ck_L_c_161 : ∀ i, i < 0 → (al_L_161.drop i).head?.all (fun alt => rf_run nm_cl nm_ct en_xs 8 xx_L kc_L cu_L po_L (some .boolean) 1 0 98 16364 (some mu_L_161) 5000 true 1420 alt) = true
  | i + 0, h => absurd h (by omega)
theorem ck_L_n_161 : (al_L_161.drop 0).isEmpty = true := by decide +kernel
theorem ck_L_c_162 : ∀ i, i < 0 → (al_L_162.drop i).head?.all (fun alt => rf_run nm_cl nm_ct en_xs 8 xx_L kc_L cu_L po_L (some .boolean) 1 0 98 16364 (some mu_L_162) 5000 true 1420 alt) = true
  | i + 0, h => absurd h (by omega)
theorem ck_L_n_162 : (al_L_162.drop 0).isEmpty = true := by decide +kernel
theorem ck_L_c_163 : ∀ i, i < 0 → (al_L_163.drop i).head?.all (fun alt => rf_run nm_cl nm_ct en_xs 8 xx_L kc_L cu_L po_L (some .boolean) 1 0 98 16364 (some mu_L_163) 5000 true 1420 alt) = true
  | i + 0, h => absurd h (by omega)
theorem ck_L_n_163 : (al_L_163.drop 0).isEmpty = true := by decide +kernel
theorem ck_L_b_164_0 : (al_L_164.drop 0).head?.all (fun alt => rf_run nm_cl nm_ct en_xs 8 xx_L kc_L cu_L po_L (some .boolean) 1 0 98 16364 (some mu_L_164) 5000 true 1420 alt) = true := by decide +kernel
theorem ck_L_c_164 : ∀ i, i < 1 → (al_L_164.drop i).head?.all (fun alt => rf_run nm_cl nm_ct en_xs 8 xx_L kc_L cu_L po_L (some .boolean) 1 0 98 16364 (some mu_L_164) 5000 true 1420 alt) = true
  | 0, _ => ck_L_b_164_0
  | i + 1, h => absurd h (by omega)
theorem ck_L_n_164 : (al_L_164.drop 1).isEmpty = true := by decide +kernel
theorem ck_L_c_165 : ∀ i, i < 0 → (al_L_165.drop i).head?.all (fun alt => rf_run nm_cl nm_ct en_xs 8 xx_L kc_L cu_L po_L (some .boolean) 1 0 98 16364 (some mu_L_165) 5000 true 1420 alt) = true
  | i + 0, h => absurd h (by omega)
theorem ck_L_n_165 : (al_L_165.drop 0).isEmpty = true := by decide +kernel
theorem ck_L_b_166_0 : (al_L_166.drop 0).head?.all (fun alt => rf_run nm_cl nm_ct en_xs 8 xx_L kc_L cu_L po_L (some .boolean) 1 0 98 16364 (some mu_L_166) 5000 true 1420 alt) = true := by decide +kernel
theorem ck_L_c_166 : ∀ i, i < 1 → (al_L_166.drop i).head?.all (fun alt => rf_run nm_cl nm_ct en_xs 8 xx_L kc_L cu_L po_L (some .boolean) 1 0 98 16364 (some mu_L_166) 5000 true 1420 alt) = true
  | 0, _ => ck_L_b_166_0
  | i + 1, h => absurd h (by omega)
theorem ck_L_n_166 : (al_L_166.drop 1).isEmpty = true := by decide +kernel
theorem ck_L_c_167 : ∀ i, i < 0 → (al_L_167.drop i).head?.all (fun alt => rf_run nm_cl nm_ct en_xs 8 xx_L kc_L cu_L po_L (some .boolean) 1 0 98 16364 (some mu_L_167) 5000 true 1420 alt) = true
  | i + 0, h => absurd h (by omega)
theorem ck_L_n_167 : (al_L_167.drop 0).isEmpty = true := by decide +kernel
theorem ck_L_c_168 : ∀ i, i < 0 → (al_L_168.drop i).head?.all (fun alt => rf_run nm_cl nm_ct en_xs 8 xx_L kc_L cu_L po_L (some .boolean) 1 0 98 16364 (some mu_L_168) 5000 true 1420 alt) = true
  | i + 0, h => absurd h (by omega)
theorem ck_L_n_168 : (al_L_168.drop 0).isEmpty = true := by decide +kernel
theorem ck_L_c_169 : ∀ i, i < 0 → (al_L_169.drop i).head?.all (fun alt => rf_run nm_cl nm_ct en_xs 8 xx_L kc_L cu_L po_L (some .boolean) 1 0 98 16364 (some mu_L_169) 5000 true 1420 alt) = true
  | i + 0, h => absurd h (by omega)
theorem ck_L_n_169 : (al_L_169.drop 0).isEmpty = true := by decide +kernel
theorem ck_L_c_170 : ∀ i, i < 0 → (al_L_170.drop i).head?.all (fun alt => rf_run nm_cl nm_ct en_xs 8 xx_L kc_L cu_L po_L (some .boolean) 1 0 98 16364 (some mu_L_170) 5000 true 1420 alt) = true
  | i + 0, h => absurd h (by omega)
theorem ck_L_n_170 : (al_L_170.drop 0).isEmpty = true := by decide +kernel
theorem ck_L_c_171 : ∀ i, i < 0 → (al_L_171.drop i).head?.all (fun alt => rf_run nm_cl nm_ct en_xs 8 xx_L kc_L cu_L po_L (some .boolean) 1 0 98 16364 (some mu_L_171) 5000 true 1420 alt) = true
  | i + 0, h => absurd h (by omega)
theorem ck_L_n_171 : (al_L_171.drop 0).isEmpty = true := by decide +kernel
theorem ck_L_c_172 : ∀ i, i < 0 → (al_L_172.drop i).head?.all (fun alt => rf_run nm_cl nm_ct en_xs 8 xx_L kc_L cu_L po_L (some .boolean) 1 0 98 16364 (some mu_L_172) 5000 true 1420 alt) = true
  | i + 0, h => absurd h (by omega)
theorem ck_L_n_172 : (al_L_172.drop 0).isEmpty = true := by decide +kernel
theorem ck_L_c_173 : ∀ i, i < 0 → (al_L_173.drop i).head?.all (fun alt => rf_run nm_cl nm_ct en_xs 8 xx_L kc_L cu_L po_L (some .boolean) 1 0 98 16364 (some mu_L_173) 5000 true 1420 alt) = true
  | i + 0, h => absurd h (by omega)
theorem ck_L_n_173 : (al_L_173.drop 0).isEmpty = true := by decide +kernel
theorem ck_L_c_174 : ∀ i, i < 0 → (al_L_174.drop i).head?.all (fun alt => rf_run nm_cl nm_ct en_xs 8 xx_L kc_L cu_L po_L (some .boolean) 1 0 98 16364 (some mu_L_174) 5000 true 1420 alt) = true
  | i + 0, h => absurd h (by omega)
theorem ck_L_n_174 : (al_L_174.drop 0).isEmpty = true := by decide +kernel
theorem ck_L_c_175 : ∀ i, i < 0 → (al_L_175.drop i).head?.all (fun alt => rf_run nm_cl nm_ct en_xs 8 xx_L kc_L cu_L po_L (some .boolean) 1 0 98 16364 (some mu_L_175) 5000 true 1420 alt) = true
  | i + 0, h => absurd h (by omega)
theorem ck_L_n_175 : (al_L_175.drop 0).isEmpty = true := by decide +kernel
theorem ck_L_c_176 : ∀ i, i < 0 → (al_L_176.drop i).head?.all (fun alt => rf_run nm_cl nm_ct en_xs 8 xx_L kc_L cu_L po_L (some .boolean) 1 0 98 16364 (some mu_L_176) 5000 true 1420 alt) = true
  | i + 0, h => absurd h (by omega)
theorem ck_L_n_176 : (al_L_176.drop 0).isEmpty = true := by decide +kernel
theorem ck_L_c_177 : ∀ i, i < 0 → (al_L_177.drop i).head?.all (fun alt => rf_run nm_cl nm_ct en_xs 8 xx_L kc_L cu_L po_L (some .boolean) 1 0 98 16364 (some mu_L_177) 5000 true 1420 alt) = true
  | i + 0, h => absurd h (by omega)
theorem ck_L_n_177 : (al_L_177.drop 0).isEmpty = true := by decide +kernel
theorem ck_L_c_178 : ∀ i, i < 0 → (al_L_178.drop i).head?.all (fun alt => rf_run nm_cl nm_ct en_xs 8 xx_L kc_L cu_L po_L (some .boolean) 1 0 98 16364 (some mu_L_178) 5000 true 1420 alt) = true
  | i + 0, h => absurd h (by omega)
theorem ck_L_n_178 : (al_L_178.drop 0).isEmpty = true := by decide +kernel
theorem ck_L_c_179 : ∀ i, i < 0 → (al_L_179.drop i).head?.all (fun alt => rf_run nm_cl nm_ct en_xs 8 xx_L kc_L cu_L po_L (some .boolean) 1 0 98 16364 (some mu_L_179) 5000 true 1420 alt) = true
  | i + 0, h => absurd h (by omega)
theorem ck_L_n_179 : (al_L_179.drop 0).isEmpty = true := by decide +kernel
theorem ck_L_c_180 : ∀ i, i < 0 → (al_L_180.drop i).head?.all (fun alt => rf_run nm_cl nm_ct en_xs 8 xx_L kc_L cu_L po_L (some .boolean) 1 0 98 16364 (some mu_L_180) 5000 true 1420 alt) = true
  | i + 0, h => absurd h (by omega)
theorem ck_L_n_180 : (al_L_180.drop 0).isEmpty = true := by decide +kernel
theorem ck_L_c_181 : ∀ i, i < 0 → (al_L_181.drop i).head?.all (fun alt => rf_run nm_cl nm_ct en_xs 8 xx_L kc_L cu_L po_L (some .boolean) 1 0 98 16364 (some mu_L_181) 5000 true 1420 alt) = true
  | i + 0, h => absurd h (by omega)
theorem ck_L_n_181 : (al_L_181.drop 0).isEmpty = true := by decide +kernel
theorem ck_L_c_182 : ∀ i, i < 0 → (al_L_182.drop i).head?.all (fun alt => rf_run nm_cl nm_ct en_xs 8 xx_L kc_L cu_L po_L (some .boolean) 1 0 98 16364 (some mu_L_182) 5000 true 1420 alt) = true
  | i + 0, h => absurd h (by omega)
theorem ck_L_n_182 : (al_L_182.drop 0).isEmpty = true := by decide +kernel
theorem ck_L_c_183 : ∀ i, i < 0 → (al_L_183.drop i).head?.all (fun alt => rf_run nm_cl nm_ct en_xs 8 xx_L kc_L cu_L po_L (some .boolean) 1 0 98 16364 (some mu_L_183) 5000 true 1420 alt) = true
  | i + 0, h => absurd h (by omega)
theorem ck_L_n_183 : (al_L_183.drop 0).isEmpty = true := by decide +kernel
theorem ck_L_c_184 : ∀ i, i < 0 → (al_L_184.drop i).head?.all (fun alt => rf_run nm_cl nm_ct en_xs 8 xx_L kc_L cu_L po_L (some .boolean) 1 0 98 16364 (some mu_L_184) 5000 true 1420 alt) = true
  | i + 0, h => absurd h (by omega)
theorem ck_L_n_184 : (al_L_184.drop 0).isEmpty = true := by decide +kernel
theorem ck_L_c_185 : ∀ i, i < 0 → (al_L_185.drop i).head?.all (fun alt => rf_run nm_cl nm_ct en_xs 8 xx_L kc_L cu_L po_L (some .boolean) 1 0 98 16364 (some mu_L_185) 5000 true 1420 alt) = true
  | i + 0, h => absurd h (by omega)
theorem ck_L_n_185 : (al_L_185.drop 0).isEmpty = true := by decide +kernel
theorem ck_L_c_186 : ∀ i, i < 0 → (al_L_186.drop i).head?.all (fun alt => rf_run nm_cl nm_ct en_xs 8 xx_L kc_L cu_L po_L (some .boolean) 1 0 98 16364 (some mu_L_186) 5000 true 1420 alt) = true
  | i + 0, h => absurd h (by omega)
theorem ck_L_n_186 : (al_L_186.drop 0).isEmpty = true := by decide +kernel
theorem ck_L_c_187 : ∀ i, i < 0 → (al_L_187.drop i).head?.all (fun alt => rf_run nm_cl nm_ct en_xs 8 xx_L kc_L cu_L po_L (some .boolean) 1 0 98 16364 (some mu_L_187) 5000 true 1420 alt) = true
  | i + 0, h => absurd h (by omega)
theorem ck_L_n_187 : (al_L_187.drop 0).isEmpty = true := by decide +kernel
theorem ck_L_c_188 : ∀ i, i < 0 → (al_L_188.drop i).head?.all (fun alt => rf_run nm_cl nm_ct en_xs 8 xx_L kc_L cu_L po_L (some .boolean) 1 0 98 16364 (some mu_L_188) 5000 true 1420 alt) = true
  | i + 0, h => absurd h (by omega)
theorem ck_L_n_188 : (al_L_188.drop 0).isEmpty = true := by decide +kernel
theorem ck_L_c_189 : ∀ i, i < 0 → (al_L_189.drop i).head?.all (fun alt => rf_run nm_cl nm_ct en_xs 8 xx_L kc_L cu_L po_L (some .boolean) 1 0 98 16364 (some mu_L_189) 5000 true 1420 alt) = true
  | i + 0, h => absurd h (by omega)
theorem ck_L_n_189 : (al_L_189.drop 0).isEmpty = true := by decide +kernel
theorem ck_L_c_190 : ∀ i, i < 0 → (al_L_190.drop i).head?.all (fun alt => rf_run nm_cl nm_ct en_xs 8 xx_L kc_L cu_L po_L (some .boolean) 1 0 98 16364 (some mu_L_190) 5000 true 1420 alt) = true
  | i + 0, h => absurd h (by omega)
theorem ck_L_n_190 : (al_L_190.drop 0).isEmpty = true := by decide +kernel
theorem ck_L_c_191 : ∀ i, i < 0 → (al_L_191.drop i).head?.all (fun alt => rf_run nm_cl nm_ct en_xs 8 xx_L kc_L cu_L po_L (some .boolean) 1 0 98 16364 (some mu_L_191) 5000 true 1420 alt) = true
  | i + 0, h => absurd h (by omega)
theorem ck_L_n_191 : (al_L_191.drop 0).isEmpty = true := by decide +kernel
theorem ck_L_c_192 : ∀ i, i < 0 → (al_L_192.drop i).head?.all (fun alt => rf_run nm_cl nm_ct en_xs 8 xx_L kc_L cu_L po_L (some .boolean) 1 0 98 16364 (some mu_L_192) 5000 true 1420 alt) = true
  | i + 0, h => absurd h (by omega)
theorem ck_L_n_192 : (al_L_192.drop 0).isEmpty = true := by decide +kernel
theorem ck_L_c_193 : ∀ i, i < 0 → (al_L_193.drop i).head?.all (fun alt => rf_run nm_cl nm_ct en_xs 8 xx_L kc_L cu_L po_L (some .boolean) 1 0 98 16364 (some mu_L_193) 5000 true 1420 alt) = true
  | i + 0, h => absurd h (by omega)
theorem ck_L_n_193 : (al_L_193.drop 0).isEmpty = true := by decide +kernel
theorem ck_L_c_194 : ∀ i, i < 0 → (al_L_194.drop i).head?.all (fun alt => rf_run nm_cl nm_ct en_xs 8 xx_L kc_L cu_L po_L (some .boolean) 1 0 98 16364 (some mu_L_194) 5000 true 1420 alt) = true
  | i + 0, h => absurd h (by omega)
theorem ck_L_n_194 : (al_L_194.drop 0).isEmpty = true := by decide +kernel
theorem ck_L_b_195_0 : (al_L_195.drop 0).head?.all (fun alt => rf_run nm_cl nm_ct en_xs 8 xx_L kc_L cu_L po_L (some .boolean) 1 0 98 16364 (some mu_L_195) 5000 true 1420 alt) = true := by decide +kernel
theorem ck_L_c_195 : ∀ i, i < 1 → (al_L_195.drop i).head?.all (fun alt => rf_run nm_cl nm_ct en_xs 8 xx_L kc_L cu_L po_L (some .boolean) 1 0 98 16364 (some mu_L_195) 5000 true 1420 alt) = true
  | 0, _ => ck_L_b_195_0
  | i + 1, h => absurd h (by omega)
theorem ck_L_n_195 : (al_L_195.drop 1).isEmpty = true := by decide +kernel
theorem ck_L_c_196 : ∀ i, i < 0 → (al_L_196.drop i).head?.all (fun alt => rf_run nm_cl nm_ct en_xs 8 xx_L kc_L cu_L po_L (some .boolean) 1 0 98 16364 (some mu_L_196) 5000 true 1420 alt) = true
  | i + 0, h => absurd h (by omega)
theorem ck_L_n_196 : (al_L_196.drop 0).isEmpty = true := by decide +kernel
theorem ck_L_c_197 : ∀ i, i < 0 → (al_L_197.drop i).head?.all (fun alt => rf_run nm_cl nm_ct en_xs 8 xx_L kc_L cu_L po_L (some .boolean) 1 0 98 16364 (some mu_L_197) 5000 true 1420 alt) = true
  | i + 0, h => absurd h (by omega)
theorem ck_L_n_197 : (al_L_197.drop 0).isEmpty = true := by decide +kernel
theorem ck_L_b_198_0 : (al_L_198.drop 0).head?.all (fun alt => rf_run nm_cl nm_ct en_xs 8 xx_L kc_L cu_L po_L (some .boolean) 1 0 98 16364 (some mu_L_198) 5000 true 1420 alt) = true := by decide +kernel
theorem ck_L_c_198 : ∀ i, i < 1 → (al_L_198.drop i).head?.all (fun alt => rf_run nm_cl nm_ct en_xs 8 xx_L kc_L cu_L po_L (some .boolean) 1 0 98 16364 (some mu_L_198) 5000 true 1420 alt) = true
  | 0, _ => ck_L_b_198_0
  | i + 1, h => absurd h (by omega)
theorem ck_L_n_198 : (al_L_198.drop 1).isEmpty = true := by decide +kernel
theorem ck_L_c_199 : ∀ i, i < 0 → (al_L_199.drop i).head?.all (fun alt => rf_run nm_cl nm_ct en_xs 8 xx_L kc_L cu_L po_L (some .boolean) 1 0 98 16364 (some mu_L_199) 5000 true 1420 alt) = true
  | i + 0, h => absurd h (by omega)
theorem ck_L_n_199 : (al_L_199.drop 0).isEmpty = true := by decide +kernel
theorem ck_L_b_200_0 : (al_L_200.drop 0).head?.all (fun alt => rf_run nm_cl nm_ct en_xs 8 xx_L kc_L cu_L po_L (some .boolean) 1 0 98 16364 (some mu_L_200) 5000 true 1420 alt) = true := by decide +kernel
theorem ck_L_c_200 : ∀ i, i < 1 → (al_L_200.drop i).head?.all (fun alt => rf_run nm_cl nm_ct en_xs 8 xx_L kc_L cu_L po_L (some .boolean) 1 0 98 16364 (some mu_L_200) 5000 true 1420 alt) = true
  | 0, _ => ck_L_b_200_0
  | i + 1, h => absurd h (by omega)
theorem ck_L_n_200 : (al_L_200.drop 1).isEmpty = true := by decide +kernel
theorem ck_L_c_201 : ∀ i, i < 0 → (al_L_201.drop i).head?.all (fun alt => rf_run nm_cl nm_ct en_xs 8 xx_L kc_L cu_L po_L (some .boolean) 1 0 98 16364 (some mu_L_201) 5000 true 1420 alt) = true
  | i + 0, h => absurd h (by omega)
theorem ck_L_n_201 : (al_L_201.drop 0).isEmpty = true := by decide +kernel
theorem ck_L_c_202 : ∀ i, i < 0 → (al_L_202.drop i).head?.all (fun alt => rf_run nm_cl nm_ct en_xs 8 xx_L kc_L cu_L po_L (some .boolean) 1 0 98 16364 (some mu_L_202) 5000 true 1420 alt) = true
  | i + 0, h => absurd h (by omega)
theorem ck_L_n_202 : (al_L_202.drop 0).isEmpty = true := by decide +kernel
theorem ck_L_c_203 : ∀ i, i < 0 → (al_L_203.drop i).head?.all (fun alt => rf_run nm_cl nm_ct en_xs 8 xx_L kc_L cu_L po_L (some .boolean) 1 0 98 16364 (some mu_L_203) 5000 true 1420 alt) = true
  | i + 0, h => absurd h (by omega)
theorem ck_L_n_203 : (al_L_203.drop 0).isEmpty = true := by decide +kernel
theorem ck_L_c_204 : ∀ i, i < 0 → (al_L_204.drop i).head?.all (fun alt => rf_run nm_cl nm_ct en_xs 8 xx_L kc_L cu_L po_L (some .boolean) 1 0 98 16364 (some mu_L_204) 5000 true 1420 alt) = true
  | i + 0, h => absurd h (by omega)
theorem ck_L_n_204 : (al_L_204.drop 0).isEmpty = true := by decide +kernel
theorem ck_L_c_205 : ∀ i, i < 0 → (al_L_205.drop i).head?.all (fun alt => rf_run nm_cl nm_ct en_xs 8 xx_L kc_L cu_L po_L (some .boolean) 1 0 98 16364 (some mu_L_205) 5000 true 1420 alt) = true
  | i + 0, h => absurd h (by omega)
theorem ck_L_n_205 : (al_L_205.drop 0).isEmpty = true := by decide +kernel
theorem ck_L_c_206 : ∀ i, i < 0 → (al_L_206.drop i).head?.all (fun alt => rf_run nm_cl nm_ct en_xs 8 xx_L kc_L cu_L po_L (some .boolean) 1 0 98 16364 (some mu_L_206) 5000 true 1420 alt) = true
  | i + 0, h => absurd h (by omega)
theorem ck_L_n_206 : (al_L_206.drop 0).isEmpty = true := by decide +kernel
theorem ck_L_c_207 : ∀ i, i < 0 → (al_L_207.drop i).head?.all (fun alt => rf_run nm_cl nm_ct en_xs 8 xx_L kc_L cu_L po_L (some .boolean) 1 0 98 16364 (some mu_L_207) 5000 true 1420 alt) = true
  | i + 0, h => absurd h (by omega)
theorem ck_L_n_207 : (al_L_207.drop 0).isEmpty = true := by decide +kernel
theorem ck_L_c_208 : ∀ i, i < 0 → (al_L_208.drop i).head?.all (fun alt => rf_run nm_cl nm_ct en_xs 8 xx_L kc_L cu_L po_L (some .boolean) 1 0 98 16364 (some mu_L_208) 5000 true 1420 alt) = true
  | i + 0, h => absurd h (by omega)
theorem ck_L_n_208 : (al_L_208.drop 0).isEmpty = true := by decide +kernel
theorem ck_L_c_209 : ∀ i, i < 0 → (al_L_209.drop i).head?.all (fun alt => rf_run nm_cl nm_ct en_xs 8 xx_L kc_L cu_L po_L (some .boolean) 1 0 98 16364 (some mu_L_209) 5000 true 1420 alt) = true
  | i + 0, h => absurd h (by omega)
theorem ck_L_n_209 : (al_L_209.drop 0).isEmpty = true := by decide +kernel
