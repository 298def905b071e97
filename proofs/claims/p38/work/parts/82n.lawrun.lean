/-! the law: its checks -/
theorem ck_L_b_210_0 : (al_L_210.drop 0).head?.all (fun alt => rf_run nm_cl nm_ct en_xs 8 xx_L kc_L cu_L po_L (some .boolean) 1 0 98 16364 (some mu_L_210) 5000 true 1420 alt) = true := by decide +kernel
theorem ck_L_c_210 : ∀ i, i < 1 → (al_L_210.drop i).head?.all (fun alt => rf_run nm_cl nm_ct en_xs 8 xx_L kc_L cu_L po_L (some .boolean) 1 0 98 16364 (some mu_L_210) 5000 true 1420 alt) = true
  | 0, _ => ck_L_b_210_0
  | i + 1, h => absurd h (by omega)
theorem ck_L_n_210 : (al_L_210.drop 1).isEmpty = true := by decide +kernel
theorem ck_L_c_211 : ∀ i, i < 0 → (al_L_211.drop i).head?.all (fun alt => rf_run nm_cl nm_ct en_xs 8 xx_L kc_L cu_L po_L (some .boolean) 1 0 98 16364 (some mu_L_211) 5000 true 1420 alt) = true
  | i + 0, h => absurd h (by omega)
theorem ck_L_n_211 : (al_L_211.drop 0).isEmpty = true := by decide +kernel
theorem ck_L_c_212 : ∀ i, i < 0 → (al_L_212.drop i).head?.all (fun alt => rf_run nm_cl nm_ct en_xs 8 xx_L kc_L cu_L po_L (some .boolean) 1 0 98 16364 (some mu_L_212) 5000 true 1420 alt) = true
  | i + 0, h => absurd h (by omega)
theorem ck_L_n_212 : (al_L_212.drop 0).isEmpty = true := by decide +kernel
theorem ck_L_c_213 : ∀ i, i < 0 → (al_L_213.drop i).head?.all (fun alt => rf_run nm_cl nm_ct en_xs 8 xx_L kc_L cu_L po_L (some .boolean) 1 0 98 16364 (some mu_L_213) 5000 true 1420 alt) = true
  | i + 0, h => absurd h (by omega)
theorem ck_L_n_213 : (al_L_213.drop 0).isEmpty = true := by decide +kernel
theorem ck_L_c_214 : ∀ i, i < 0 → (al_L_214.drop i).head?.all (fun alt => rf_run nm_cl nm_ct en_xs 8 xx_L kc_L cu_L po_L (some .boolean) 1 0 98 16364 (some mu_L_214) 5000 true 1420 alt) = true
  | i + 0, h => absurd h (by omega)
theorem ck_L_n_214 : (al_L_214.drop 0).isEmpty = true := by decide +kernel
theorem ck_L_c_215 : ∀ i, i < 0 → (al_L_215.drop i).head?.all (fun alt => rf_run nm_cl nm_ct en_xs 8 xx_L kc_L cu_L po_L (some .boolean) 1 0 98 16364 (some mu_L_215) 5000 true 1420 alt) = true
  | i + 0, h => absurd h (by omega)
theorem ck_L_n_215 : (al_L_215.drop 0).isEmpty = true := by decide +kernel
theorem ck_L_c_216 : ∀ i, i < 0 → (al_L_216.drop i).head?.all (fun alt => rf_run nm_cl nm_ct en_xs 8 xx_L kc_L cu_L po_L (some .boolean) 1 0 98 16364 (some mu_L_216) 5000 true 1420 alt) = true
  | i + 0, h => absurd h (by omega)
theorem ck_L_n_216 : (al_L_216.drop 0).isEmpty = true := by decide +kernel
theorem ck_L_c_217 : ∀ i, i < 0 → (al_L_217.drop i).head?.all (fun alt => rf_run nm_cl nm_ct en_xs 8 xx_L kc_L cu_L po_L (some .boolean) 1 0 98 16364 (some mu_L_217) 5000 true 1420 alt) = true
  | i + 0, h => absurd h (by omega)
theorem ck_L_n_217 : (al_L_217.drop 0).isEmpty = true := by decide +kernel
theorem ck_L_c_218 : ∀ i, i < 0 → (al_L_218.drop i).head?.all (fun alt => rf_run nm_cl nm_ct en_xs 8 xx_L kc_L cu_L po_L (some .boolean) 1 0 98 16364 (some mu_L_218) 5000 true 1420 alt) = true
  | i + 0, h => absurd h (by omega)
theorem ck_L_n_218 : (al_L_218.drop 0).isEmpty = true := by decide +kernel
theorem ck_L_c_219 : ∀ i, i < 0 → (al_L_219.drop i).head?.all (fun alt => rf_run nm_cl nm_ct en_xs 8 xx_L kc_L cu_L po_L (some .boolean) 1 0 98 16364 (some mu_L_219) 5000 true 1420 alt) = true
  | i + 0, h => absurd h (by omega)
theorem ck_L_n_219 : (al_L_219.drop 0).isEmpty = true := by decide +kernel
theorem ck_L_c_220 : ∀ i, i < 0 → (al_L_220.drop i).head?.all (fun alt => rf_run nm_cl nm_ct en_xs 8 xx_L kc_L cu_L po_L (some .boolean) 1 0 98 16364 (some mu_L_220) 5000 true 1420 alt) = true
  | i + 0, h => absurd h (by omega)
theorem ck_L_n_220 : (al_L_220.drop 0).isEmpty = true := by decide +kernel
theorem ck_L_c_221 : ∀ i, i < 0 → (al_L_221.drop i).head?.all (fun alt => rf_run nm_cl nm_ct en_xs 8 xx_L kc_L cu_L po_L (some .boolean) 1 0 98 16364 (some mu_L_221) 5000 true 1420 alt) = true
  | i + 0, h => absurd h (by omega)
theorem ck_L_n_221 : (al_L_221.drop 0).isEmpty = true := by decide +kernel
theorem ck_L_b_222_0 : (al_L_222.drop 0).head?.all (fun alt => rf_run nm_cl nm_ct en_xs 8 xx_L kc_L cu_L po_L (some .boolean) 1 0 98 16364 (some mu_L_222) 5000 true 1420 alt) = true := by decide +kernel
theorem ck_L_c_222 : ∀ i, i < 1 → (al_L_222.drop i).head?.all (fun alt => rf_run nm_cl nm_ct en_xs 8 xx_L kc_L cu_L po_L (some .boolean) 1 0 98 16364 (some mu_L_222) 5000 true 1420 alt) = true
  | 0, _ => ck_L_b_222_0
  | i + 1, h => absurd h (by omega)
theorem ck_L_n_222 : (al_L_222.drop 1).isEmpty = true := by decide +kernel
theorem ck_L_c_223 : ∀ i, i < 0 → (al_L_223.drop i).head?.all (fun alt => rf_run nm_cl nm_ct en_xs 8 xx_L kc_L cu_L po_L (some .boolean) 1 0 98 16364 (some mu_L_223) 5000 true 1420 alt) = true
  | i + 0, h => absurd h (by omega)
theorem ck_L_n_223 : (al_L_223.drop 0).isEmpty = true := by decide +kernel
theorem ck_L_c_224 : ∀ i, i < 0 → (al_L_224.drop i).head?.all (fun alt => rf_run nm_cl nm_ct en_xs 8 xx_L kc_L cu_L po_L (some .boolean) 1 0 98 16364 (some mu_L_224) 5000 true 1420 alt) = true
  | i + 0, h => absurd h (by omega)
theorem ck_L_n_224 : (al_L_224.drop 0).isEmpty = true := by decide +kernel
theorem ck_L_c_225 : ∀ i, i < 0 → (al_L_225.drop i).head?.all (fun alt => rf_run nm_cl nm_ct en_xs 8 xx_L kc_L cu_L po_L (some .boolean) 1 0 98 16364 (some mu_L_225) 5000 true 1420 alt) = true
  | i + 0, h => absurd h (by omega)
theorem ck_L_n_225 : (al_L_225.drop 0).isEmpty = true := by decide +kernel
theorem ck_L_c_226 : ∀ i, i < 0 → (al_L_226.drop i).head?.all (fun alt => rf_run nm_cl nm_ct en_xs 8 xx_L kc_L cu_L po_L (some .boolean) 1 0 98 16364 (some mu_L_226) 5000 true 1420 alt) = true
  | i + 0, h => absurd h (by omega)
theorem ck_L_n_226 : (al_L_226.drop 0).isEmpty = true := by decide +kernel
theorem ck_L_c_227 : ∀ i, i < 0 → (al_L_227.drop i).head?.all (fun alt => rf_run nm_cl nm_ct en_xs 8 xx_L kc_L cu_L po_L (some .boolean) 1 0 98 16364 (some mu_L_227) 5000 true 1420 alt) = true
  | i + 0, h => absurd h (by omega)
theorem ck_L_n_227 : (al_L_227.drop 0).isEmpty = true := by decide +kernel
theorem ck_L_c_228 : ∀ i, i < 0 → (al_L_228.drop i).head?.all (fun alt => rf_run nm_cl nm_ct en_xs 8 xx_L kc_L cu_L po_L (some .boolean) 1 0 98 16364 (some mu_L_228) 5000 true 1420 alt) = true
  | i + 0, h => absurd h (by omega)
theorem ck_L_n_228 : (al_L_228.drop 0).isEmpty = true := by decide +kernel
theorem ck_L_c_229 : ∀ i, i < 0 → (al_L_229.drop i).head?.all (fun alt => rf_run nm_cl nm_ct en_xs 8 xx_L kc_L cu_L po_L (some .boolean) 1 0 98 16364 (some mu_L_229) 5000 true 1420 alt) = true
  | i + 0, h => absurd h (by omega)
theorem ck_L_n_229 : (al_L_229.drop 0).isEmpty = true := by decide +kernel
theorem ck_L_c_230 : ∀ i, i < 0 → (al_L_230.drop i).head?.all (fun alt => rf_run nm_cl nm_ct en_xs 8 xx_L kc_L cu_L po_L (some .boolean) 1 0 98 16364 (some mu_L_230) 5000 true 1420 alt) = true
  | i + 0, h => absurd h (by omega)
theorem ck_L_n_230 : (al_L_230.drop 0).isEmpty = true := by decide +kernel
theorem ck_L_c_231 : ∀ i, i < 0 → (al_L_231.drop i).head?.all (fun alt => rf_run nm_cl nm_ct en_xs 8 xx_L kc_L cu_L po_L (some .boolean) 1 0 98 16364 (some mu_L_231) 5000 true 1420 alt) = true
  | i + 0, h => absurd h (by omega)
theorem ck_L_n_231 : (al_L_231.drop 0).isEmpty = true := by decide +kernel
theorem ck_L_c_232 : ∀ i, i < 0 → (al_L_232.drop i).head?.all (fun alt => rf_run nm_cl nm_ct en_xs 8 xx_L kc_L cu_L po_L (some .boolean) 1 0 98 16364 (some mu_L_232) 5000 true 1420 alt) = true
  | i + 0, h => absurd h (by omega)
theorem ck_L_n_232 : (al_L_232.drop 0).isEmpty = true := by decide +kernel
theorem ck_L_c_233 : ∀ i, i < 0 → (al_L_233.drop i).head?.all (fun alt => rf_run nm_cl nm_ct en_xs 8 xx_L kc_L cu_L po_L (some .boolean) 1 0 98 16364 (some mu_L_233) 5000 true 1420 alt) = true
  | i + 0, h => absurd h (by omega)
theorem ck_L_n_233 : (al_L_233.drop 0).isEmpty = true := by decide +kernel
theorem ck_L_c_234 : ∀ i, i < 0 → (al_L_234.drop i).head?.all (fun alt => rf_run nm_cl nm_ct en_xs 8 xx_L kc_L cu_L po_L (some .boolean) 1 0 98 16364 (some mu_L_234) 5000 true 1420 alt) = true
  | i + 0, h => absurd h (by omega)
theorem ck_L_n_234 : (al_L_234.drop 0).isEmpty = true := by decide +kernel
theorem ck_L_b_235_0 : (al_L_235.drop 0).head?.all (fun alt => rf_run nm_cl nm_ct en_xs 8 xx_L kc_L cu_L po_L (some .boolean) 1 0 98 16364 (some mu_L_235) 5000 true 1420 alt) = true := by decide +kernel
theorem ck_L_c_235 : ∀ i, i < 1 → (al_L_235.drop i).head?.all (fun alt => rf_run nm_cl nm_ct en_xs 8 xx_L kc_L cu_L po_L (some .boolean) 1 0 98 16364 (some mu_L_235) 5000 true 1420 alt) = true
  | 0, _ => ck_L_b_235_0
  | i + 1, h => absurd h (by omega)
theorem ck_L_n_235 : (al_L_235.drop 1).isEmpty = true := by decide +kernel
theorem ck_L_c_236 : ∀ i, i < 0 → (al_L_236.drop i).head?.all (fun alt => rf_run nm_cl nm_ct en_xs 8 xx_L kc_L cu_L po_L (some .boolean) 1 0 98 16364 (some mu_L_236) 5000 true 1420 alt) = true
  | i + 0, h => absurd h (by omega)
theorem ck_L_n_236 : (al_L_236.drop 0).isEmpty = true := by decide +kernel
theorem ck_L_c_237 : ∀ i, i < 0 → (al_L_237.drop i).head?.all (fun alt => rf_run nm_cl nm_ct en_xs 8 xx_L kc_L cu_L po_L (some .boolean) 1 0 98 16364 (some mu_L_237) 5000 true 1420 alt) = true
  | i + 0, h => absurd h (by omega)
theorem ck_L_n_237 : (al_L_237.drop 0).isEmpty = true := by decide +kernel
theorem ck_L_b_238_0 : (al_L_238.drop 0).head?.all (fun alt => rf_run nm_cl nm_ct en_xs 8 xx_L kc_L cu_L po_L (some .boolean) 1 0 98 16364 (some mu_L_238) 5000 true 1420 alt) = true := by decide +kernel
theorem ck_L_c_238 : ∀ i, i < 1 → (al_L_238.drop i).head?.all (fun alt => rf_run nm_cl nm_ct en_xs 8 xx_L kc_L cu_L po_L (some .boolean) 1 0 98 16364 (some mu_L_238) 5000 true 1420 alt) = true
  | 0, _ => ck_L_b_238_0
  | i + 1, h => absurd h (by omega)
theorem ck_L_n_238 : (al_L_238.drop 1).isEmpty = true := by decide +kernel
theorem ck_L_c_239 : ∀ i, i < 0 → (al_L_239.drop i).head?.all (fun alt => rf_run nm_cl nm_ct en_xs 8 xx_L kc_L cu_L po_L (some .boolean) 1 0 98 16364 (some mu_L_239) 5000 true 1420 alt) = true
  | i + 0, h => absurd h (by omega)
theorem ck_L_n_239 : (al_L_239.drop 0).isEmpty = true := by decide +kernel
theorem ck_L_c_240 : ∀ i, i < 0 → (al_L_240.drop i).head?.all (fun alt => rf_run nm_cl nm_ct en_xs 8 xx_L kc_L cu_L po_L (some .boolean) 1 0 98 16364 (some mu_L_240) 5000 true 1420 alt) = true
  | i + 0, h => absurd h (by omega)
theorem ck_L_n_240 : (al_L_240.drop 0).isEmpty = true := by decide +kernel
theorem ck_L_c_241 : ∀ i, i < 0 → (al_L_241.drop i).head?.all (fun alt => rf_run nm_cl nm_ct en_xs 8 xx_L kc_L cu_L po_L (some .boolean) 1 0 98 16364 (some mu_L_241) 5000 true 1420 alt) = true
  | i + 0, h => absurd h (by omega)
theorem ck_L_n_241 : (al_L_241.drop 0).isEmpty = true := by decide +kernel
theorem ck_L_c_242 : ∀ i, i < 0 → (al_L_242.drop i).head?.all (fun alt => rf_run nm_cl nm_ct en_xs 8 xx_L kc_L cu_L po_L (some .boolean) 1 0 98 16364 (some mu_L_242) 5000 true 1420 alt) = true
  | i + 0, h => absurd h (by omega)
theorem ck_L_n_242 : (al_L_242.drop 0).isEmpty = true := by decide +kernel
theorem ck_L_c_243 : ∀ i, i < 0 → (al_L_243.drop i).head?.all (fun alt => rf_run nm_cl nm_ct en_xs 8 xx_L kc_L cu_L po_L (some .boolean) 1 0 98 16364 (some mu_L_243) 5000 true 1420 alt) = true
  | i + 0, h => absurd h (by omega)
theorem ck_L_n_243 : (al_L_243.drop 0).isEmpty = true := by decide +kernel
theorem ck_L_c_244 : ∀ i, i < 0 → (al_L_244.drop i).head?.all (fun alt => rf_run nm_cl nm_ct en_xs 8 xx_L kc_L cu_L po_L (some .boolean) 1 0 98 16364 (some mu_L_244) 5000 true 1420 alt) = true
  | i + 0, h => absurd h (by omega)
theorem ck_L_n_244 : (al_L_244.drop 0).isEmpty = true := by decide +kernel
theorem ck_L_c_245 : ∀ i, i < 0 → (al_L_245.drop i).head?.all (fun alt => rf_run nm_cl nm_ct en_xs 8 xx_L kc_L cu_L po_L (some .boolean) 1 0 98 16364 (some mu_L_245) 5000 true 1420 alt) = true
  | i + 0, h => absurd h (by omega)
theorem ck_L_n_245 : (al_L_245.drop 0).isEmpty = true := by decide +kernel
theorem ck_L_c_246 : ∀ i, i < 0 → (al_L_246.drop i).head?.all (fun alt => rf_run nm_cl nm_ct en_xs 8 xx_L kc_L cu_L po_L (some .boolean) 1 0 98 16364 (some mu_L_246) 5000 true 1420 alt) = true
  | i + 0, h => absurd h (by omega)
theorem ck_L_n_246 : (al_L_246.drop 0).isEmpty = true := by decide +kernel
theorem ck_L_c_247 : ∀ i, i < 0 → (al_L_247.drop i).head?.all (fun alt => rf_run nm_cl nm_ct en_xs 8 xx_L kc_L cu_L po_L (some .boolean) 1 0 98 16364 (some mu_L_247) 5000 true 1420 alt) = true
  | i + 0, h => absurd h (by omega)
theorem ck_L_n_247 : (al_L_247.drop 0).isEmpty = true := by decide +kernel
theorem ck_L_c_248 : ∀ i, i < 0 → (al_L_248.drop i).head?.all (fun alt => rf_run nm_cl nm_ct en_xs 8 xx_L kc_L cu_L po_L (some .boolean) 1 0 98 16364 (some mu_L_248) 5000 true 1420 alt) = true
  | i + 0, h => absurd h (by omega)
theorem ck_L_n_248 : (al_L_248.drop 0).isEmpty = true := by decide +kernel
theorem ck_L_b_249_0 : (al_L_249.drop 0).head?.all (fun alt => rf_run nm_cl nm_ct en_xs 8 xx_L kc_L cu_L po_L (some .boolean) 1 0 98 16364 (some mu_L_249) 5000 true 1420 alt) = true := by decide +kernel
theorem ck_L_c_249 : ∀ i, i < 1 → (al_L_249.drop i).head?.all (fun alt => rf_run nm_cl nm_ct en_xs 8 xx_L kc_L cu_L po_L (some .boolean) 1 0 98 16364 (some mu_L_249) 5000 true 1420 alt) = true
  | 0, _ => ck_L_b_249_0
  | i + 1, h => absurd h (by omega)
theorem ck_L_n_249 : (al_L_249.drop 1).isEmpty = true := by decide +kernel
theorem ck_L_c_250 : ∀ i, i < 0 → (al_L_250.drop i).head?.all (fun alt => rf_run nm_cl nm_ct en_xs 8 xx_L kc_L cu_L po_L (some .boolean) 1 0 98 16364 (some mu_L_250) 5000 true 1420 alt) = true
  | i + 0, h => absurd h (by omega)
theorem ck_L_n_250 : (al_L_250.drop 0).isEmpty = true := by decide +kernel
theorem ck_L_c_251 : ∀ i, i < 0 → (al_L_251.drop i).head?.all (fun alt => rf_run nm_cl nm_ct en_xs 8 xx_L kc_L cu_L po_L (some .boolean) 1 0 98 16364 (some mu_L_251) 5000 true 1420 alt) = true
  | i + 0, h => absurd h (by omega)
theorem ck_L_n_251 : (al_L_251.drop 0).isEmpty = true := by decide +kernel
theorem ck_L_c_252 : ∀ i, i < 0 → (al_L_252.drop i).head?.all (fun alt => rf_run nm_cl nm_ct en_xs 8 xx_L kc_L cu_L po_L (some .boolean) 1 0 98 16364 (some mu_L_252) 5000 true 1420 alt) = true
  | i + 0, h => absurd h (by omega)
theorem ck_L_n_252 : (al_L_252.drop 0).isEmpty = true := by decide +kernel
theorem ck_L_c_253 : ∀ i, i < 0 → (al_L_253.drop i).head?.all (fun alt => rf_run nm_cl nm_ct en_xs 8 xx_L kc_L cu_L po_L (some .boolean) 1 0 98 16364 (some mu_L_253) 5000 true 1420 alt) = true
  | i + 0, h => absurd h (by omega)
theorem ck_L_n_253 : (al_L_253.drop 0).isEmpty = true := by decide +kernel
theorem ck_L_c_254 : ∀ i, i < 0 → (al_L_254.drop i).head?.all (fun alt => rf_run nm_cl nm_ct en_xs 8 xx_L kc_L cu_L po_L (some .boolean) 1 0 98 16364 (some mu_L_254) 5000 true 1420 alt) = true
  | i + 0, h => absurd h (by omega)
theorem ck_L_n_254 : (al_L_254.drop 0).isEmpty = true := by decide +kernel
theorem ck_L_c_255 : ∀ i, i < 0 → (al_L_255.drop i).head?.all (fun alt => rf_run nm_cl nm_ct en_xs 8 xx_L kc_L cu_L po_L (some .boolean) 1 0 98 16364 (some mu_L_255) 5000 true 1420 alt) = true
  | i + 0, h => absurd h (by omega)
theorem ck_L_n_255 : (al_L_255.drop 0).isEmpty = true := by decide +kernel
theorem ck_L_c_256 : ∀ i, i < 0 → (al_L_256.drop i).head?.all (fun alt => rf_run nm_cl nm_ct en_xs 8 xx_L kc_L cu_L po_L (some .boolean) 1 0 98 16364 (some mu_L_256) 5000 true 1420 alt) = true
  | i + 0, h => absurd h (by omega)
theorem ck_L_n_256 : (al_L_256.drop 0).isEmpty = true := by decide +kernel
theorem ck_L_c_257 : ∀ i, i < 0 → (al_L_257.drop i).head?.all (fun alt => rf_run nm_cl nm_ct en_xs 8 xx_L kc_L cu_L po_L (some .boolean) 1 0 98 16364 (some mu_L_257) 5000 true 1420 alt) = true
  | i + 0, h => absurd h (by omega)
theorem ck_L_n_257 : (al_L_257.drop 0).isEmpty = true := by decide +kernel
theorem ck_L_c_258 : ∀ i, i < 0 → (al_L_258.drop i).head?.all (fun alt => rf_run nm_cl nm_ct en_xs 8 xx_L kc_L cu_L po_L (some .boolean) 1 0 98 16364 (some mu_L_258) 5000 true 1420 alt) = true
  | i + 0, h => absurd h (by omega)
theorem ck_L_n_258 : (al_L_258.drop 0).isEmpty = true := by decide +kernel
theorem ck_L_c_259 : ∀ i, i < 0 → (al_L_259.drop i).head?.all (fun alt => rf_run nm_cl nm_ct en_xs 8 xx_L kc_L cu_L po_L (some .boolean) 1 0 98 16364 (some mu_L_259) 5000 true 1420 alt) = true
  | i + 0, h => absurd h (by omega)
theorem ck_L_n_259 : (al_L_259.drop 0).isEmpty = true := by decide +kernel
theorem ck_L_c_260 : ∀ i, i < 0 → (al_L_260.drop i).head?.all (fun alt => rf_run nm_cl nm_ct en_xs 8 xx_L kc_L cu_L po_L (some .boolean) 1 0 98 16364 (some mu_L_260) 5000 true 1420 alt) = true
  | i + 0, h => absurd h (by omega)
theorem ck_L_n_260 : (al_L_260.drop 0).isEmpty = true := by decide +kernel
theorem ck_L_c_261 : ∀ i, i < 0 → (al_L_261.drop i).head?.all (fun alt => rf_run nm_cl nm_ct en_xs 8 xx_L kc_L cu_L po_L (some .boolean) 1 0 98 16364 (some mu_L_261) 5000 true 1420 alt) = true
  | i + 0, h => absurd h (by omega)
theorem ck_L_n_261 : (al_L_261.drop 0).isEmpty = true := by decide +kernel
theorem ck_L_c_262 : ∀ i, i < 0 → (al_L_262.drop i).head?.all (fun alt => rf_run nm_cl nm_ct en_xs 8 xx_L kc_L cu_L po_L (some .boolean) 1 0 98 16364 (some mu_L_262) 5000 true 1420 alt) = true
  | i + 0, h => absurd h (by omega)
theorem ck_L_n_262 : (al_L_262.drop 0).isEmpty = true := by decide +kernel
theorem ck_L_c_263 : ∀ i, i < 0 → (al_L_263.drop i).head?.all (fun alt => rf_run nm_cl nm_ct en_xs 8 xx_L kc_L cu_L po_L (some .boolean) 1 0 98 16364 (some mu_L_263) 5000 true 1420 alt) = true
  | i + 0, h => absurd h (by omega)
theorem ck_L_n_263 : (al_L_263.drop 0).isEmpty = true := by decide +kernel
theorem ck_L_c_264 : ∀ i, i < 0 → (al_L_264.drop i).head?.all (fun alt => rf_run nm_cl nm_ct en_xs 8 xx_L kc_L cu_L po_L (some .boolean) 1 0 98 16364 (some mu_L_264) 5000 true 1420 alt) = true
  | i + 0, h => absurd h (by omega)
theorem ck_L_n_264 : (al_L_264.drop 0).isEmpty = true := by decide +kernel
theorem ck_L_c_265 : ∀ i, i < 0 → (al_L_265.drop i).head?.all (fun alt => rf_run nm_cl nm_ct en_xs 8 xx_L kc_L cu_L po_L (some .boolean) 1 0 98 16364 (some mu_L_265) 5000 true 1420 alt) = true
  | i + 0, h => absurd h (by omega)
theorem ck_L_n_265 : (al_L_265.drop 0).isEmpty = true := by decide +kernel
theorem ck_L_b_266_0 : (al_L_266.drop 0).head?.all (fun alt => rf_run nm_cl nm_ct en_xs 8 xx_L kc_L cu_L po_L (some .boolean) 1 0 98 16364 (some mu_L_266) 5000 true 1420 alt) = true := by decide +kernel
theorem ck_L_c_266 : ∀ i, i < 1 → (al_L_266.drop i).head?.all (fun alt => rf_run nm_cl nm_ct en_xs 8 xx_L kc_L cu_L po_L (some .boolean) 1 0 98 16364 (some mu_L_266) 5000 true 1420 alt) = true
  | 0, _ => ck_L_b_266_0
  | i + 1, h => absurd h (by omega)
theorem ck_L_n_266 : (al_L_266.drop 1).isEmpty = true := by decide +kernel
theorem ck_L_c_267 : ∀ i, i < 0 → (al_L_267.drop i).head?.all (fun alt => rf_run nm_cl nm_ct en_xs 8 xx_L kc_L cu_L po_L (some .boolean) 1 0 98 16364 (some mu_L_267) 5000 true 1420 alt) = true
  | i + 0, h => absurd h (by omega)
theorem ck_L_n_267 : (al_L_267.drop 0).isEmpty = true := by decide +kernel
theorem ck_L_c_268 : ∀ i, i < 0 → (al_L_268.drop i).head?.all (fun alt => rf_run nm_cl nm_ct en_xs 8 xx_L kc_L cu_L po_L (some .boolean) 1 0 98 16364 (some mu_L_268) 5000 true 1420 alt) = true
  | i + 0, h => absurd h (by omega)
theorem ck_L_n_268 : (al_L_268.drop 0).isEmpty = true := by decide +kernel
theorem ck_L_c_269 : ∀ i, i < 0 → (al_L_269.drop i).head?.all (fun alt => rf_run nm_cl nm_ct en_xs 8 xx_L kc_L cu_L po_L (some .boolean) 1 0 98 16364 (some mu_L_269) 5000 true 1420 alt) = true
  | i + 0, h => absurd h (by omega)
theorem ck_L_n_269 : (al_L_269.drop 0).isEmpty = true := by decide +kernel
theorem ck_L_c_270 : ∀ i, i < 0 → (al_L_270.drop i).head?.all (fun alt => rf_run nm_cl nm_ct en_xs 8 xx_L kc_L cu_L po_L (some .boolean) 1 0 98 16364 (some mu_L_270) 5000 true 1420 alt) = true
  | i + 0, h => absurd h (by omega)
theorem ck_L_n_270 : (al_L_270.drop 0).isEmpty = true := by decide +kernel
theorem ck_L_c_271 : ∀ i, i < 0 → (al_L_271.drop i).head?.all (fun alt => rf_run nm_cl nm_ct en_xs 8 xx_L kc_L cu_L po_L (some .boolean) 1 0 98 16364 (some mu_L_271) 5000 true 1420 alt) = true
  | i + 0, h => absurd h (by omega)
theorem ck_L_n_271 : (al_L_271.drop 0).isEmpty = true := by decide +kernel
theorem ck_L_c_272 : ∀ i, i < 0 → (al_L_272.drop i).head?.all (fun alt => rf_run nm_cl nm_ct en_xs 8 xx_L kc_L cu_L po_L (some .boolean) 1 0 98 16364 (some mu_L_272) 5000 true 1420 alt) = true
  | i + 0, h => absurd h (by omega)
theorem ck_L_n_272 : (al_L_272.drop 0).isEmpty = true := by decide +kernel
theorem ck_L_c_273 : ∀ i, i < 0 → (al_L_273.drop i).head?.all (fun alt => rf_run nm_cl nm_ct en_xs 8 xx_L kc_L cu_L po_L (some .boolean) 1 0 98 16364 (some mu_L_273) 5000 true 1420 alt) = true
  | i + 0, h => absurd h (by omega)
theorem ck_L_n_273 : (al_L_273.drop 0).isEmpty = true := by decide +kernel
theorem ck_L_c_274 : ∀ i, i < 0 → (al_L_274.drop i).head?.all (fun alt => rf_run nm_cl nm_ct en_xs 8 xx_L kc_L cu_L po_L (some .boolean) 1 0 98 16364 (some mu_L_274) 5000 true 1420 alt) = true
  | i + 0, h => absurd h (by omega)
theorem ck_L_n_274 : (al_L_274.drop 0).isEmpty = true := by decide +kernel
theorem ck_L_c_275 : ∀ i, i < 0 → (al_L_275.drop i).head?.all (fun alt => rf_run nm_cl nm_ct en_xs 8 xx_L kc_L cu_L po_L (some .boolean) 1 0 98 16364 (some mu_L_275) 5000 true 1420 alt) = true
  | i + 0, h => absurd h (by omega)
theorem ck_L_n_275 : (al_L_275.drop 0).isEmpty = true := by decide +kernel
theorem ck_L_c_276 : ∀ i, i < 0 → (al_L_276.drop i).head?.all (fun alt => rf_run nm_cl nm_ct en_xs 8 xx_L kc_L cu_L po_L (some .boolean) 1 0 98 16364 (some mu_L_276) 5000 true 1420 alt) = true
  | i + 0, h => absurd h (by omega)
theorem ck_L_n_276 : (al_L_276.drop 0).isEmpty = true := by decide +kernel
theorem ck_L_c_277 : ∀ i, i < 0 → (al_L_277.drop i).head?.all (fun alt => rf_run nm_cl nm_ct en_xs 8 xx_L kc_L cu_L po_L (some .boolean) 1 0 98 16364 (some mu_L_277) 5000 true 1420 alt) = true
  | i + 0, h => absurd h (by omega)
theorem ck_L_n_277 : (al_L_277.drop 0).isEmpty = true := by decide +kernel
theorem ck_L_c_278 : ∀ i, i < 0 → (al_L_278.drop i).head?.all (fun alt => rf_run nm_cl nm_ct en_xs 8 xx_L kc_L cu_L po_L (some .boolean) 1 0 98 16364 (some mu_L_278) 5000 true 1420 alt) = true
  | i + 0, h => absurd h (by omega)
theorem ck_L_n_278 : (al_L_278.drop 0).isEmpty = true := by decide +kernel
theorem ck_L_c_279 : ∀ i, i < 0 → (al_L_279.drop i).head?.all (fun alt => rf_run nm_cl nm_ct en_xs 8 xx_L kc_L cu_L po_L (some .boolean) 1 0 98 16364 (some mu_L_279) 5000 true 1420 alt) = true
  | i + 0, h => absurd h (by omega)
theorem ck_L_n_279 : (al_L_279.drop 0).isEmpty = true := by decide +kernel
theorem ck_L_c_280 : ∀ i, i < 0 → (al_L_280.drop i).head?.all (fun alt => rf_run nm_cl nm_ct en_xs 8 xx_L kc_L cu_L po_L (some .boolean) 1 0 98 16364 (some mu_L_280) 5000 true 1420 alt) = true
  | i + 0, h => absurd h (by omega)
theorem ck_L_n_280 : (al_L_280.drop 0).isEmpty = true := by decide +kernel
theorem ck_L_c_281 : ∀ i, i < 0 → (al_L_281.drop i).head?.all (fun alt => rf_run nm_cl nm_ct en_xs 8 xx_L kc_L cu_L po_L (some .boolean) 1 0 98 16364 (some mu_L_281) 5000 true 1420 alt) = true
  | i + 0, h => absurd h (by omega)
theorem ck_L_n_281 : (al_L_281.drop 0).isEmpty = true := by decide +kernel
theorem ck_L_c_282 : ∀ i, i < 0 → (al_L_282.drop i).head?.all (fun alt => rf_run nm_cl nm_ct en_xs 8 xx_L kc_L cu_L po_L (some .boolean) 1 0 98 16364 (some mu_L_282) 5000 true 1420 alt) = true
  | i + 0, h => absurd h (by omega)
theorem ck_L_n_282 : (al_L_282.drop 0).isEmpty = true := by decide +kernel
theorem ck_L_c_283 : ∀ i, i < 0 → (al_L_283.drop i).head?.all (fun alt => rf_run nm_cl nm_ct en_xs 8 xx_L kc_L cu_L po_L (some .boolean) 1 0 98 16364 (some mu_L_283) 5000 true 1420 alt) = true
  | i + 0, h => absurd h (by omega)
theorem ck_L_n_283 : (al_L_283.drop 0).isEmpty = true := by decide +kernel
theorem ck_L_c_284 : ∀ i, i < 0 → (al_L_284.drop i).head?.all (fun alt => rf_run nm_cl nm_ct en_xs 8 xx_L kc_L cu_L po_L (some .boolean) 1 0 98 16364 (some mu_L_284) 5000 true 1420 alt) = true
  | i + 0, h => absurd h (by omega)
theorem ck_L_n_284 : (al_L_284.drop 0).isEmpty = true := by decide +kernel
theorem ck_L_c_285 : ∀ i, i < 0 → (al_L_285.drop i).head?.all (fun alt => rf_run nm_cl nm_ct en_xs 8 xx_L kc_L cu_L po_L (some .boolean) 1 0 98 16364 (some mu_L_285) 5000 true 1420 alt) = true
  | i + 0, h => absurd h (by omega)
theorem ck_L_n_285 : (al_L_285.drop 0).isEmpty = true := by decide +kernel
theorem ck_L_c_286 : ∀ i, i < 0 → (al_L_286.drop i).head?.all (fun alt => rf_run nm_cl nm_ct en_xs 8 xx_L kc_L cu_L po_L (some .boolean) 1 0 98 16364 (some mu_L_286) 5000 true 1420 alt) = true
  | i + 0, h => absurd h (by omega)
theorem ck_L_n_286 : (al_L_286.drop 0).isEmpty = true := by decide +kernel
theorem ck_L_c_287 : ∀ i, i < 0 → (al_L_287.drop i).head?.all (fun alt => rf_run nm_cl nm_ct en_xs 8 xx_L kc_L cu_L po_L (some .boolean) 1 0 98 16364 (some mu_L_287) 5000 true 1420 alt) = true
  | i + 0, h => absurd h (by omega)
theorem ck_L_n_287 : (al_L_287.drop 0).isEmpty = true := by decide +kernel
theorem ck_L_c_288 : ∀ i, i < 0 → (al_L_288.drop i).head?.all (fun alt => rf_run nm_cl nm_ct en_xs 8 xx_L kc_L cu_L po_L (some .boolean) 1 0 98 16364 (some mu_L_288) 5000 true 1420 alt) = true
  | i + 0, h => absurd h (by omega)
theorem ck_L_n_288 : (al_L_288.drop 0).isEmpty = true := by decide +kernel
theorem ck_L_c_289 : ∀ i, i < 0 → (al_L_289.drop i).head?.all (fun alt => rf_run nm_cl nm_ct en_xs 8 xx_L kc_L cu_L po_L (some .boolean) 1 0 98 16364 (some mu_L_289) 5000 true 1420 alt) = true
  | i + 0, h => absurd h (by omega)
theorem ck_L_n_289 : (al_L_289.drop 0).isEmpty = true := by decide +kernel
theorem ck_L_c_290 : ∀ i, i < 0 → (al_L_290.drop i).head?.all (fun alt => rf_run nm_cl nm_ct en_xs 8 xx_L kc_L cu_L po_L (some .boolean) 1 0 98 16364 (some mu_L_290) 5000 true 1420 alt) = true
  | i + 0, h => absurd h (by omega)
theorem ck_L_n_290 : (al_L_290.drop 0).isEmpty = true := by decide +kernel
theorem ck_L_c_291 : ∀ i, i < 0 → (al_L_291.drop i).head?.all (fun alt => rf_run nm_cl nm_ct en_xs 8 xx_L kc_L cu_L po_L (some .boolean) 1 0 98 16364 (some mu_L_291) 5000 true 1420 alt) = true
  | i + 0, h => absurd h (by omega)
theorem ck_L_n_291 : (al_L_291.drop 0).isEmpty = true := by decide +kernel
theorem ck_L_c_292 : ∀ i, i < 0 → (al_L_292.drop i).head?.all (fun alt => rf_run nm_cl nm_ct en_xs 8 xx_L kc_L cu_L po_L (some .boolean) 1 0 98 16364 (some mu_L_292) 5000 true 1420 alt) = true
  | i + 0, h => absurd h (by omega)
theorem ck_L_n_292 : (al_L_292.drop 0).isEmpty = true := by decide +kernel
theorem ck_L_c_293 : ∀ i, i < 0 → (al_L_293.drop i).head?.all (fun alt => rf_run nm_cl nm_ct en_xs 8 xx_L kc_L cu_L po_L (some .boolean) 1 0 98 16364 (some mu_L_293) 5000 true 1420 alt) = true
  | i + 0, h => absurd h (by omega)
theorem ck_L_n_293 : (al_L_293.drop 0).isEmpty = true := by decide +kernel
theorem ck_L_c_294 : ∀ i, i < 0 → (al_L_294.drop i).head?.all (fun alt => rf_run nm_cl nm_ct en_xs 8 xx_L kc_L cu_L po_L (some .boolean) 1 0 98 16364 (some mu_L_294) 5000 true 1420 alt) = true
  | i + 0, h => absurd h (by omega)
theorem ck_L_n_294 : (al_L_294.drop 0).isEmpty = true := by decide +kernel
theorem ck_L_c_295 : ∀ i, i < 0 → (al_L_295.drop i).head?.all (fun alt => rf_run nm_cl nm_ct en_xs 8 xx_L kc_L cu_L po_L (some .boolean) 1 0 98 16364 (some mu_L_295) 5000 true 1420 alt) = true
  | i + 0, h => absurd h (by omega)
theorem ck_L_n_295 : (al_L_295.drop 0).isEmpty = true := by decide +kernel
theorem ck_L_c_296 : ∀ i, i < 0 → (al_L_296.drop i).head?.all (fun alt => rf_run nm_cl nm_ct en_xs 8 xx_L kc_L cu_L po_L (some .boolean) 1 0 98 16364 (some mu_L_296) 5000 true 1420 alt) = true
  | i + 0, h => absurd h (by omega)
theorem ck_L_n_296 : (al_L_296.drop 0).isEmpty = true := by decide +kernel
theorem ck_L_c_297 : ∀ i, i < 0 → (al_L_297.drop i).head?.all (fun alt => rf_run nm_cl nm_ct en_xs 8 xx_L kc_L cu_L po_L (some .boolean) 1 0 98 16364 (some mu_L_297) 5000 true 1420 alt) = true
  | i + 0, h => absurd h (by omega)
theorem ck_L_n_297 : (al_L_297.drop 0).isEmpty = true := by decide +kernel
theorem ck_L_c_298 : ∀ i, i < 0 → (al_L_298.drop i).head?.all (fun alt => rf_run nm_cl nm_ct en_xs 8 xx_L kc_L cu_L po_L (some .boolean) 1 0 98 16364 (some mu_L_298) 5000 true 1420 alt) = true
  | i + 0, h => absurd h (by omega)
theorem ck_L_n_298 : (al_L_298.drop 0).isEmpty = true := by decide +kernel
theorem ck_L_c_299 : ∀ i, i < 0 → (al_L_299.drop i).head?.all (fun alt => rf_run nm_cl nm_ct en_xs 8 xx_L kc_L cu_L po_L (some .boolean) 1 0 98 16364 (some mu_L_299) 5000 true 1420 alt) = true
  | i + 0, h => absurd h (by omega)
theorem ck_L_n_299 : (al_L_299.drop 0).isEmpty = true := by decide +kernel
theorem ck_L_c_300 : ∀ i, i < 0 → (al_L_300.drop i).head?.all (fun alt => rf_run nm_cl nm_ct en_xs 8 xx_L kc_L cu_L po_L (some .boolean) 1 0 98 16364 (some mu_L_300) 5000 true 1420 alt) = true
  | i + 0, h => absurd h (by omega)
theorem ck_L_n_300 : (al_L_300.drop 0).isEmpty = true := by decide +kernel
theorem ck_L_b_301_0 : (al_L_301.drop 0).head?.all (fun alt => rf_run nm_cl nm_ct en_xs 8 xx_L kc_L cu_L po_L (some .boolean) 1 0 98 16364 (some mu_L_301) 5000 true 1420 alt) = true := by decide +kernel
theorem ck_L_c_301 : ∀ i, i < 1 → (al_L_301.drop i).head?.all (fun alt => rf_run nm_cl nm_ct en_xs 8 xx_L kc_L cu_L po_L (some .boolean) 1 0 98 16364 (some mu_L_301) 5000 true 1420 alt) = true
  | 0, _ => ck_L_b_301_0
  | i + 1, h => absurd h (by omega)
theorem ck_L_n_301 : (al_L_301.drop 1).isEmpty = true := by decide +kernel
theorem ck_L_c_302 : ∀ i, i < 0 → (al_L_302.drop i).head?.all (fun alt => rf_run nm_cl nm_ct en_xs 8 xx_L kc_L cu_L po_L (some .boolean) 1 0 98 16364 (some mu_L_302) 5000 true 1420 alt) = true
  | i + 0, h => absurd h (by omega)
theorem ck_L_n_302 : (al_L_302.drop 0).isEmpty = true := by decide +kernel
theorem ck_L_c_303 : ∀ i, i < 0 → (al_L_303.drop i).head?.all (fun alt => rf_run nm_cl nm_ct en_xs 8 xx_L kc_L cu_L po_L (some .boolean) 1 0 98 16364 (some mu_L_303) 5000 true 1420 alt) = true
  | i + 0, h => absurd h (by omega)
theorem ck_L_n_303 : (al_L_303.drop 0).isEmpty = true := by decide +kernel
theorem ck_L_c_304 : ∀ i, i < 0 → (al_L_304.drop i).head?.all (fun alt => rf_run nm_cl nm_ct en_xs 8 xx_L kc_L cu_L po_L (some .boolean) 1 0 98 16364 (some mu_L_304) 5000 true 1420 alt) = true
  | i + 0, h => absurd h (by omega)
theorem ck_L_n_304 : (al_L_304.drop 0).isEmpty = true := by decide +kernel
theorem ck_L_c_305 : ∀ i, i < 0 → (al_L_305.drop i).head?.all (fun alt => rf_run nm_cl nm_ct en_xs 8 xx_L kc_L cu_L po_L (some .boolean) 1 0 98 16364 (some mu_L_305) 5000 true 1420 alt) = true
  | i + 0, h => absurd h (by omega)
theorem ck_L_n_305 : (al_L_305.drop 0).isEmpty = true := by decide +kernel
theorem ck_L_c_306 : ∀ i, i < 0 → (al_L_306.drop i).head?.all (fun alt => rf_run nm_cl nm_ct en_xs 8 xx_L kc_L cu_L po_L (some .boolean) 1 0 98 16364 (some mu_L_306) 5000 true 1420 alt) = true
  | i + 0, h => absurd h (by omega)
theorem ck_L_n_306 : (al_L_306.drop 0).isEmpty = true := by decide +kernel
theorem ck_L_c_307 : ∀ i, i < 0 → (al_L_307.drop i).head?.all (fun alt => rf_run nm_cl nm_ct en_xs 8 xx_L kc_L cu_L po_L (some .boolean) 1 0 98 16364 (some mu_L_307) 5000 true 1420 alt) = true
  | i + 0, h => absurd h (by omega)
theorem ck_L_n_307 : (al_L_307.drop 0).isEmpty = true := by decide +kernel
theorem ck_L_c_308 : ∀ i, i < 0 → (al_L_308.drop i).head?.all (fun alt => rf_run nm_cl nm_ct en_xs 8 xx_L kc_L cu_L po_L (some .boolean) 1 0 98 16364 (some mu_L_308) 5000 true 1420 alt) = true
  | i + 0, h => absurd h (by omega)
theorem ck_L_n_308 : (al_L_308.drop 0).isEmpty = true := by decide +kernel
theorem ck_L_c_309 : ∀ i, i < 0 → (al_L_309.drop i).head?.all (fun alt => rf_run nm_cl nm_ct en_xs 8 xx_L kc_L cu_L po_L (some .boolean) 1 0 98 16364 (some mu_L_309) 5000 true 1420 alt) = true
  | i + 0, h => absurd h (by omega)
theorem ck_L_n_309 : (al_L_309.drop 0).isEmpty = true := by decide +kernel
theorem ck_L_c_310 : ∀ i, i < 0 → (al_L_310.drop i).head?.all (fun alt => rf_run nm_cl nm_ct en_xs 8 xx_L kc_L cu_L po_L (some .boolean) 1 0 98 16364 (some mu_L_310) 5000 true 1420 alt) = true
  | i + 0, h => absurd h (by omega)
theorem ck_L_n_310 : (al_L_310.drop 0).isEmpty = true := by decide +kernel
theorem ck_L_c_311 : ∀ i, i < 0 → (al_L_311.drop i).head?.all (fun alt => rf_run nm_cl nm_ct en_xs 8 xx_L kc_L cu_L po_L (some .boolean) 1 0 98 16364 (some mu_L_311) 5000 true 1420 alt) = true
  | i + 0, h => absurd h (by omega)
theorem ck_L_n_311 : (al_L_311.drop 0).isEmpty = true := by decide +kernel
theorem ck_L_c_312 : ∀ i, i < 0 → (al_L_312.drop i).head?.all (fun alt => rf_run nm_cl nm_ct en_xs 8 xx_L kc_L cu_L po_L (some .boolean) 1 0 98 16364 (some mu_L_312) 5000 true 1420 alt) = true
  | i + 0, h => absurd h (by omega)
theorem ck_L_n_312 : (al_L_312.drop 0).isEmpty = true := by decide +kernel
theorem ck_L_b_313_0 : (al_L_313.drop 0).head?.all (fun alt => rf_run nm_cl nm_ct en_xs 8 xx_L kc_L cu_L po_L (some .boolean) 1 0 98 16364 (some mu_L_313) 5000 true 1420 alt) = true := by decide +kernel
theorem ck_L_c_313 : ∀ i, i < 1 → (al_L_313.drop i).head?.all (fun alt => rf_run nm_cl nm_ct en_xs 8 xx_L kc_L cu_L po_L (some .boolean) 1 0 98 16364 (some mu_L_313) 5000 true 1420 alt) = true
  | 0, _ => ck_L_b_313_0
  | i + 1, h => absurd h (by omega)
theorem ck_L_n_313 : (al_L_313.drop 1).isEmpty = true := by decide +kernel
theorem ck_L_c_314 : ∀ i, i < 0 → (al_L_314.drop i).head?.all (fun alt => rf_run nm_cl nm_ct en_xs 8 xx_L kc_L cu_L po_L (some .boolean) 1 0 98 16364 (some mu_L_314) 5000 true 1420 alt) = true
  | i + 0, h => absurd h (by omega)
theorem ck_L_n_314 : (al_L_314.drop 0).isEmpty = true := by decide +kernel
theorem ck_L_c_315 : ∀ i, i < 0 → (al_L_315.drop i).head?.all (fun alt => rf_run nm_cl nm_ct en_xs 8 xx_L kc_L cu_L po_L (some .boolean) 1 0 98 16364 (some mu_L_315) 5000 true 1420 alt) = true
  | i + 0, h => absurd h (by omega)
theorem ck_L_n_315 : (al_L_315.drop 0).isEmpty = true := by decide +kernel
theorem ck_L_c_316 : ∀ i, i < 0 → (al_L_316.drop i).head?.all (fun alt => rf_run nm_cl nm_ct en_xs 8 xx_L kc_L cu_L po_L (some .boolean) 1 0 98 16364 (some mu_L_316) 5000 true 1420 alt) = true
  | i + 0, h => absurd h (by omega)
theorem ck_L_n_316 : (al_L_316.drop 0).isEmpty = true := by decide +kernel
theorem ck_L_c_317 : ∀ i, i < 0 → (al_L_317.drop i).head?.all (fun alt => rf_run nm_cl nm_ct en_xs 8 xx_L kc_L cu_L po_L (some .boolean) 1 0 98 16364 (some mu_L_317) 5000 true 1420 alt) = true
  | i + 0, h => absurd h (by omega)
theorem ck_L_n_317 : (al_L_317.drop 0).isEmpty = true := by decide +kernel
theorem ck_L_c_318 : ∀ i, i < 0 → (al_L_318.drop i).head?.all (fun alt => rf_run nm_cl nm_ct en_xs 8 xx_L kc_L cu_L po_L (some .boolean) 1 0 98 16364 (some mu_L_318) 5000 true 1420 alt) = true
  | i + 0, h => absurd h (by omega)
theorem ck_L_n_318 : (al_L_318.drop 0).isEmpty = true := by decide +kernel
theorem ck_L_c_319 : ∀ i, i < 0 → (al_L_319.drop i).head?.all (fun alt => rf_run nm_cl nm_ct en_xs 8 xx_L kc_L cu_L po_L (some .boolean) 1 0 98 16364 (some mu_L_319) 5000 true 1420 alt) = true
  | i + 0, h => absurd h (by omega)
theorem ck_L_n_319 : (al_L_319.drop 0).isEmpty = true := by decide +kernel
theorem ck_L_c_320 : ∀ i, i < 0 → (al_L_320.drop i).head?.all (fun alt => rf_run nm_cl nm_ct en_xs 8 xx_L kc_L cu_L po_L (some .boolean) 1 0 98 16364 (some mu_L_320) 5000 true 1420 alt) = true
  | i + 0, h => absurd h (by omega)
theorem ck_L_n_320 : (al_L_320.drop 0).isEmpty = true := by decide +kernel
theorem ck_L_b_321_0 : (al_L_321.drop 0).head?.all (fun alt => rf_run nm_cl nm_ct en_xs 8 xx_L kc_L cu_L po_L (some .boolean) 1 0 98 16364 (some mu_L_321) 5000 true 1425 alt) = true := by decide +kernel
theorem ck_L_c_321 : ∀ i, i < 1 → (al_L_321.drop i).head?.all (fun alt => rf_run nm_cl nm_ct en_xs 8 xx_L kc_L cu_L po_L (some .boolean) 1 0 98 16364 (some mu_L_321) 5000 true 1425 alt) = true
  | 0, _ => ck_L_b_321_0
  | i + 1, h => absurd h (by omega)
theorem ck_L_n_321 : (al_L_321.drop 1).isEmpty = true := by decide +kernel
theorem ck_L_b_322_0 : (al_L_322.drop 0).head?.all (fun alt => rf_run nm_cl nm_ct en_xs 8 xx_L kc_L cu_L po_L (some .boolean) 1 0 98 16364 (some mu_L_322) 5000 true 1458 alt) = true := by decide +kernel
theorem ck_L_c_322 : ∀ i, i < 1 → (al_L_322.drop i).head?.all (fun alt => rf_run nm_cl nm_ct en_xs 8 xx_L kc_L cu_L po_L (some .boolean) 1 0 98 16364 (some mu_L_322) 5000 true 1458 alt) = true
  | 0, _ => ck_L_b_322_0
  | i + 1, h => absurd h (by omega)
theorem ck_L_n_322 : (al_L_322.drop 1).isEmpty = true := by decide +kernel
