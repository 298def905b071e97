/-! the law: its checks -/
theorem ck_L_b_286_0 : (al_L_286.drop 0).head?.all (fun alt => rf_run nm_cl nm_ct en_xs 8 xx_L kc_L cu_L po_L (some .boolean) 1 0 98 16364 (some mu_L_286) 5000 true 1421 alt) = true := by decide +kernel
theorem ck_L_c_286 : ∀ i, i < 1 → (al_L_286.drop i).head?.all (fun alt => rf_run nm_cl nm_ct en_xs 8 xx_L kc_L cu_L po_L (some .boolean) 1 0 98 16364 (some mu_L_286) 5000 true 1421 alt) = true
  | 0, _ => ck_L_b_286_0
  | i + 1, h => absurd h (by omega)
theorem ck_L_n_286 : (al_L_286.drop 1).isEmpty = true := by decide +kernel
theorem ck_L_c_287 : ∀ i, i < 0 → (al_L_287.drop i).head?.all (fun alt => rf_run nm_cl nm_ct en_xs 8 xx_L kc_L cu_L po_L (some .boolean) 1 0 98 16364 (some mu_L_287) 5000 true 1421 alt) = true
  | i + 0, h => absurd h (by omega)
theorem ck_L_n_287 : (al_L_287.drop 0).isEmpty = true := by decide +kernel
theorem ck_L_c_288 : ∀ i, i < 0 → (al_L_288.drop i).head?.all (fun alt => rf_run nm_cl nm_ct en_xs 8 xx_L kc_L cu_L po_L (some .boolean) 1 0 98 16364 (some mu_L_288) 5000 true 1421 alt) = true
  | i + 0, h => absurd h (by omega)
theorem ck_L_n_288 : (al_L_288.drop 0).isEmpty = true := by decide +kernel
theorem ck_L_c_289 : ∀ i, i < 0 → (al_L_289.drop i).head?.all (fun alt => rf_run nm_cl nm_ct en_xs 8 xx_L kc_L cu_L po_L (some .boolean) 1 0 98 16364 (some mu_L_289) 5000 true 1421 alt) = true
  | i + 0, h => absurd h (by omega)
theorem ck_L_n_289 : (al_L_289.drop 0).isEmpty = true := by decide +kernel
theorem ck_L_c_290 : ∀ i, i < 0 → (al_L_290.drop i).head?.all (fun alt => rf_run nm_cl nm_ct en_xs 8 xx_L kc_L cu_L po_L (some .boolean) 1 0 98 16364 (some mu_L_290) 5000 true 1421 alt) = true
  | i + 0, h => absurd h (by omega)
theorem ck_L_n_290 : (al_L_290.drop 0).isEmpty = true := by decide +kernel
theorem ck_L_c_291 : ∀ i, i < 0 → (al_L_291.drop i).head?.all (fun alt => rf_run nm_cl nm_ct en_xs 8 xx_L kc_L cu_L po_L (some .boolean) 1 0 98 16364 (some mu_L_291) 5000 true 1421 alt) = true
  | i + 0, h => absurd h (by omega)
theorem ck_L_n_291 : (al_L_291.drop 0).isEmpty = true := by decide +kernel
theorem ck_L_c_292 : ∀ i, i < 0 → (al_L_292.drop i).head?.all (fun alt => rf_run nm_cl nm_ct en_xs 8 xx_L kc_L cu_L po_L (some .boolean) 1 0 98 16364 (some mu_L_292) 5000 true 1421 alt) = true
  | i + 0, h => absurd h (by omega)
theorem ck_L_n_292 : (al_L_292.drop 0).isEmpty = true := by decide +kernel
theorem ck_L_c_293 : ∀ i, i < 0 → (al_L_293.drop i).head?.all (fun alt => rf_run nm_cl nm_ct en_xs 8 xx_L kc_L cu_L po_L (some .boolean) 1 0 98 16364 (some mu_L_293) 5000 true 1421 alt) = true
  | i + 0, h => absurd h (by omega)
theorem ck_L_n_293 : (al_L_293.drop 0).isEmpty = true := by decide +kernel
theorem ck_L_c_294 : ∀ i, i < 0 → (al_L_294.drop i).head?.all (fun alt => rf_run nm_cl nm_ct en_xs 8 xx_L kc_L cu_L po_L (some .boolean) 1 0 98 16364 (some mu_L_294) 5000 true 1421 alt) = true
  | i + 0, h => absurd h (by omega)
theorem ck_L_n_294 : (al_L_294.drop 0).isEmpty = true := by decide +kernel
theorem ck_L_c_295 : ∀ i, i < 0 → (al_L_295.drop i).head?.all (fun alt => rf_run nm_cl nm_ct en_xs 8 xx_L kc_L cu_L po_L (some .boolean) 1 0 98 16364 (some mu_L_295) 5000 true 1421 alt) = true
  | i + 0, h => absurd h (by omega)
theorem ck_L_n_295 : (al_L_295.drop 0).isEmpty = true := by decide +kernel
theorem ck_L_c_296 : ∀ i, i < 0 → (al_L_296.drop i).head?.all (fun alt => rf_run nm_cl nm_ct en_xs 8 xx_L kc_L cu_L po_L (some .boolean) 1 0 98 16364 (some mu_L_296) 5000 true 1421 alt) = true
  | i + 0, h => absurd h (by omega)
theorem ck_L_n_296 : (al_L_296.drop 0).isEmpty = true := by decide +kernel
theorem ck_L_c_297 : ∀ i, i < 0 → (al_L_297.drop i).head?.all (fun alt => rf_run nm_cl nm_ct en_xs 8 xx_L kc_L cu_L po_L (some .boolean) 1 0 98 16364 (some mu_L_297) 5000 true 1421 alt) = true
  | i + 0, h => absurd h (by omega)
theorem ck_L_n_297 : (al_L_297.drop 0).isEmpty = true := by decide +kernel
theorem ck_L_c_298 : ∀ i, i < 0 → (al_L_298.drop i).head?.all (fun alt => rf_run nm_cl nm_ct en_xs 8 xx_L kc_L cu_L po_L (some .boolean) 1 0 98 16364 (some mu_L_298) 5000 true 1421 alt) = true
  | i + 0, h => absurd h (by omega)
theorem ck_L_n_298 : (al_L_298.drop 0).isEmpty = true := by decide +kernel
theorem ck_L_b_299_0 : (al_L_299.drop 0).head?.all (fun alt => rf_run nm_cl nm_ct en_xs 8 xx_L kc_L cu_L po_L (some .boolean) 1 0 98 16364 (some mu_L_299) 5000 true 1421 alt) = true := by decide +kernel
theorem ck_L_c_299 : ∀ i, i < 1 → (al_L_299.drop i).head?.all (fun alt => rf_run nm_cl nm_ct en_xs 8 xx_L kc_L cu_L po_L (some .boolean) 1 0 98 16364 (some mu_L_299) 5000 true 1421 alt) = true
  | 0, _ => ck_L_b_299_0
  | i + 1, h => absurd h (by omega)
theorem ck_L_n_299 : (al_L_299.drop 1).isEmpty = true := by decide +kernel
theorem ck_L_c_300 : ∀ i, i < 0 → (al_L_300.drop i).head?.all (fun alt => rf_run nm_cl nm_ct en_xs 8 xx_L kc_L cu_L po_L (some .boolean) 1 0 98 16364 (some mu_L_300) 5000 true 1421 alt) = true
  | i + 0, h => absurd h (by omega)
theorem ck_L_n_300 : (al_L_300.drop 0).isEmpty = true := by decide +kernel
theorem ck_L_b_301_0 : (al_L_301.drop 0).head?.all (fun alt => rf_run nm_cl nm_ct en_xs 8 xx_L kc_L cu_L po_L (some .boolean) 1 0 98 16364 (some mu_L_301) 5000 true 1421 alt) = true := by decide +kernel
theorem ck_L_c_301 : ∀ i, i < 1 → (al_L_301.drop i).head?.all (fun alt => rf_run nm_cl nm_ct en_xs 8 xx_L kc_L cu_L po_L (some .boolean) 1 0 98 16364 (some mu_L_301) 5000 true 1421 alt) = true
  | 0, _ => ck_L_b_301_0
  | i + 1, h => absurd h (by omega)
theorem ck_L_n_301 : (al_L_301.drop 1).isEmpty = true := by decide +kernel
theorem ck_L_c_302 : ∀ i, i < 0 → (al_L_302.drop i).head?.all (fun alt => rf_run nm_cl nm_ct en_xs 8 xx_L kc_L cu_L po_L (some .boolean) 1 0 98 16364 (some mu_L_302) 5000 true 1421 alt) = true
  | i + 0, h => absurd h (by omega)
theorem ck_L_n_302 : (al_L_302.drop 0).isEmpty = true := by decide +kernel
theorem ck_L_c_303 : ∀ i, i < 0 → (al_L_303.drop i).head?.all (fun alt => rf_run nm_cl nm_ct en_xs 8 xx_L kc_L cu_L po_L (some .boolean) 1 0 98 16364 (some mu_L_303) 5000 true 1421 alt) = true
  | i + 0, h => absurd h (by omega)
theorem ck_L_n_303 : (al_L_303.drop 0).isEmpty = true := by decide +kernel
theorem ck_L_c_304 : ∀ i, i < 0 → (al_L_304.drop i).head?.all (fun alt => rf_run nm_cl nm_ct en_xs 8 xx_L kc_L cu_L po_L (some .boolean) 1 0 98 16364 (some mu_L_304) 5000 true 1421 alt) = true
  | i + 0, h => absurd h (by omega)
theorem ck_L_n_304 : (al_L_304.drop 0).isEmpty = true := by decide +kernel
theorem ck_L_c_305 : ∀ i, i < 0 → (al_L_305.drop i).head?.all (fun alt => rf_run nm_cl nm_ct en_xs 8 xx_L kc_L cu_L po_L (some .boolean) 1 0 98 16364 (some mu_L_305) 5000 true 1421 alt) = true
  | i + 0, h => absurd h (by omega)
theorem ck_L_n_305 : (al_L_305.drop 0).isEmpty = true := by decide +kernel
theorem ck_L_c_306 : ∀ i, i < 0 → (al_L_306.drop i).head?.all (fun alt => rf_run nm_cl nm_ct en_xs 8 xx_L kc_L cu_L po_L (some .boolean) 1 0 98 16364 (some mu_L_306) 5000 true 1421 alt) = true
  | i + 0, h => absurd h (by omega)
theorem ck_L_n_306 : (al_L_306.drop 0).isEmpty = true := by decide +kernel
theorem ck_L_c_307 : ∀ i, i < 0 → (al_L_307.drop i).head?.all (fun alt => rf_run nm_cl nm_ct en_xs 8 xx_L kc_L cu_L po_L (some .boolean) 1 0 98 16364 (some mu_L_307) 5000 true 1421 alt) = true
  | i + 0, h => absurd h (by omega)
theorem ck_L_n_307 : (al_L_307.drop 0).isEmpty = true := by decide +kernel
theorem ck_L_c_308 : ∀ i, i < 0 → (al_L_308.drop i).head?.all (fun alt => rf_run nm_cl nm_ct en_xs 8 xx_L kc_L cu_L po_L (some .boolean) 1 0 98 16364 (some mu_L_308) 5000 true 1421 alt) = true
  | i + 0, h => absurd h (by omega)
theorem ck_L_n_308 : (al_L_308.drop 0).isEmpty = true := by decide +kernel
theorem ck_L_c_309 : ∀ i, i < 0 → (al_L_309.drop i).head?.all (fun alt => rf_run nm_cl nm_ct en_xs 8 xx_L kc_L cu_L po_L (some .boolean) 1 0 98 16364 (some mu_L_309) 5000 true 1421 alt) = true
  | i + 0, h => absurd h (by omega)
theorem ck_L_n_309 : (al_L_309.drop 0).isEmpty = true := by decide +kernel
theorem ck_L_c_310 : ∀ i, i < 0 → (al_L_310.drop i).head?.all (fun alt => rf_run nm_cl nm_ct en_xs 8 xx_L kc_L cu_L po_L (some .boolean) 1 0 98 16364 (some mu_L_310) 5000 true 1421 alt) = true
  | i + 0, h => absurd h (by omega)
theorem ck_L_n_310 : (al_L_310.drop 0).isEmpty = true := by decide +kernel
theorem ck_L_b_311_0 : (al_L_311.drop 0).head?.all (fun alt => rf_run nm_cl nm_ct en_xs 8 xx_L kc_L cu_L po_L (some .boolean) 1 0 98 16364 (some mu_L_311) 5000 true 1421 alt) = true := by decide +kernel
theorem ck_L_c_311 : ∀ i, i < 1 → (al_L_311.drop i).head?.all (fun alt => rf_run nm_cl nm_ct en_xs 8 xx_L kc_L cu_L po_L (some .boolean) 1 0 98 16364 (some mu_L_311) 5000 true 1421 alt) = true
  | 0, _ => ck_L_b_311_0
  | i + 1, h => absurd h (by omega)
theorem ck_L_n_311 : (al_L_311.drop 1).isEmpty = true := by decide +kernel
theorem ck_L_c_312 : ∀ i, i < 0 → (al_L_312.drop i).head?.all (fun alt => rf_run nm_cl nm_ct en_xs 8 xx_L kc_L cu_L po_L (some .boolean) 1 0 98 16364 (some mu_L_312) 5000 true 1421 alt) = true
  | i + 0, h => absurd h (by omega)
theorem ck_L_n_312 : (al_L_312.drop 0).isEmpty = true := by decide +kernel
theorem ck_L_c_313 : ∀ i, i < 0 → (al_L_313.drop i).head?.all (fun alt => rf_run nm_cl nm_ct en_xs 8 xx_L kc_L cu_L po_L (some .boolean) 1 0 98 16364 (some mu_L_313) 5000 true 1421 alt) = true
  | i + 0, h => absurd h (by omega)
theorem ck_L_n_313 : (al_L_313.drop 0).isEmpty = true := by decide +kernel
theorem ck_L_c_314 : ∀ i, i < 0 → (al_L_314.drop i).head?.all (fun alt => rf_run nm_cl nm_ct en_xs 8 xx_L kc_L cu_L po_L (some .boolean) 1 0 98 16364 (some mu_L_314) 5000 true 1421 alt) = true
  | i + 0, h => absurd h (by omega)
theorem ck_L_n_314 : (al_L_314.drop 0).isEmpty = true := by decide +kernel
theorem ck_L_c_315 : ∀ i, i < 0 → (al_L_315.drop i).head?.all (fun alt => rf_run nm_cl nm_ct en_xs 8 xx_L kc_L cu_L po_L (some .boolean) 1 0 98 16364 (some mu_L_315) 5000 true 1421 alt) = true
  | i + 0, h => absurd h (by omega)
theorem ck_L_n_315 : (al_L_315.drop 0).isEmpty = true := by decide +kernel
theorem ck_L_c_316 : ∀ i, i < 0 → (al_L_316.drop i).head?.all (fun alt => rf_run nm_cl nm_ct en_xs 8 xx_L kc_L cu_L po_L (some .boolean) 1 0 98 16364 (some mu_L_316) 5000 true 1421 alt) = true
  | i + 0, h => absurd h (by omega)
theorem ck_L_n_316 : (al_L_316.drop 0).isEmpty = true := by decide +kernel
theorem ck_L_c_317 : ∀ i, i < 0 → (al_L_317.drop i).head?.all (fun alt => rf_run nm_cl nm_ct en_xs 8 xx_L kc_L cu_L po_L (some .boolean) 1 0 98 16364 (some mu_L_317) 5000 true 1421 alt) = true
  | i + 0, h => absurd h (by omega)
theorem ck_L_n_317 : (al_L_317.drop 0).isEmpty = true := by decide +kernel
theorem ck_L_c_318 : ∀ i, i < 0 → (al_L_318.drop i).head?.all (fun alt => rf_run nm_cl nm_ct en_xs 8 xx_L kc_L cu_L po_L (some .boolean) 1 0 98 16364 (some mu_L_318) 5000 true 1421 alt) = true
  | i + 0, h => absurd h (by omega)
theorem ck_L_n_318 : (al_L_318.drop 0).isEmpty = true := by decide +kernel
theorem ck_L_c_319 : ∀ i, i < 0 → (al_L_319.drop i).head?.all (fun alt => rf_run nm_cl nm_ct en_xs 8 xx_L kc_L cu_L po_L (some .boolean) 1 0 98 16364 (some mu_L_319) 5000 true 1421 alt) = true
  | i + 0, h => absurd h (by omega)
theorem ck_L_n_319 : (al_L_319.drop 0).isEmpty = true := by decide +kernel
theorem ck_L_c_320 : ∀ i, i < 0 → (al_L_320.drop i).head?.all (fun alt => rf_run nm_cl nm_ct en_xs 8 xx_L kc_L cu_L po_L (some .boolean) 1 0 98 16364 (some mu_L_320) 5000 true 1421 alt) = true
  | i + 0, h => absurd h (by omega)
theorem ck_L_n_320 : (al_L_320.drop 0).isEmpty = true := by decide +kernel
theorem ck_L_c_321 : ∀ i, i < 0 → (al_L_321.drop i).head?.all (fun alt => rf_run nm_cl nm_ct en_xs 8 xx_L kc_L cu_L po_L (some .boolean) 1 0 98 16364 (some mu_L_321) 5000 true 1421 alt) = true
  | i + 0, h => absurd h (by omega)
theorem ck_L_n_321 : (al_L_321.drop 0).isEmpty = true := by decide +kernel
theorem ck_L_c_322 : ∀ i, i < 0 → (al_L_322.drop i).head?.all (fun alt => rf_run nm_cl nm_ct en_xs 8 xx_L kc_L cu_L po_L (some .boolean) 1 0 98 16364 (some mu_L_322) 5000 true 1421 alt) = true
  | i + 0, h => absurd h (by omega)
theorem ck_L_n_322 : (al_L_322.drop 0).isEmpty = true := by decide +kernel
theorem ck_L_b_323_0 : (al_L_323.drop 0).head?.all (fun alt => rf_run nm_cl nm_ct en_xs 8 xx_L kc_L cu_L po_L (some .boolean) 1 0 98 16364 (some mu_L_323) 5000 true 1421 alt) = true := by decide +kernel
theorem ck_L_c_323 : ∀ i, i < 1 → (al_L_323.drop i).head?.all (fun alt => rf_run nm_cl nm_ct en_xs 8 xx_L kc_L cu_L po_L (some .boolean) 1 0 98 16364 (some mu_L_323) 5000 true 1421 alt) = true
  | 0, _ => ck_L_b_323_0
  | i + 1, h => absurd h (by omega)
theorem ck_L_n_323 : (al_L_323.drop 1).isEmpty = true := by decide +kernel
theorem ck_L_c_324 : ∀ i, i < 0 → (al_L_324.drop i).head?.all (fun alt => rf_run nm_cl nm_ct en_xs 8 xx_L kc_L cu_L po_L (some .boolean) 1 0 98 16364 (some mu_L_324) 5000 true 1421 alt) = true
  | i + 0, h => absurd h (by omega)
theorem ck_L_n_324 : (al_L_324.drop 0).isEmpty = true := by decide +kernel
theorem ck_L_c_325 : ∀ i, i < 0 → (al_L_325.drop i).head?.all (fun alt => rf_run nm_cl nm_ct en_xs 8 xx_L kc_L cu_L po_L (some .boolean) 1 0 98 16364 (some mu_L_325) 5000 true 1421 alt) = true
  | i + 0, h => absurd h (by omega)
theorem ck_L_n_325 : (al_L_325.drop 0).isEmpty = true := by decide +kernel
theorem ck_L_c_326 : ∀ i, i < 0 → (al_L_326.drop i).head?.all (fun alt => rf_run nm_cl nm_ct en_xs 8 xx_L kc_L cu_L po_L (some .boolean) 1 0 98 16364 (some mu_L_326) 5000 true 1421 alt) = true
  | i + 0, h => absurd h (by omega)
theorem ck_L_n_326 : (al_L_326.drop 0).isEmpty = true := by decide +kernel
theorem ck_L_c_327 : ∀ i, i < 0 → (al_L_327.drop i).head?.all (fun alt => rf_run nm_cl nm_ct en_xs 8 xx_L kc_L cu_L po_L (some .boolean) 1 0 98 16364 (some mu_L_327) 5000 true 1421 alt) = true
  | i + 0, h => absurd h (by omega)
theorem ck_L_n_327 : (al_L_327.drop 0).isEmpty = true := by decide +kernel
theorem ck_L_c_328 : ∀ i, i < 0 → (al_L_328.drop i).head?.all (fun alt => rf_run nm_cl nm_ct en_xs 8 xx_L kc_L cu_L po_L (some .boolean) 1 0 98 16364 (some mu_L_328) 5000 true 1421 alt) = true
  | i + 0, h => absurd h (by omega)
theorem ck_L_n_328 : (al_L_328.drop 0).isEmpty = true := by decide +kernel
theorem ck_L_c_329 : ∀ i, i < 0 → (al_L_329.drop i).head?.all (fun alt => rf_run nm_cl nm_ct en_xs 8 xx_L kc_L cu_L po_L (some .boolean) 1 0 98 16364 (some mu_L_329) 5000 true 1421 alt) = true
  | i + 0, h => absurd h (by omega)
theorem ck_L_n_329 : (al_L_329.drop 0).isEmpty = true := by decide +kernel
theorem ck_L_c_330 : ∀ i, i < 0 → (al_L_330.drop i).head?.all (fun alt => rf_run nm_cl nm_ct en_xs 8 xx_L kc_L cu_L po_L (some .boolean) 1 0 98 16364 (some mu_L_330) 5000 true 1421 alt) = true
  | i + 0, h => absurd h (by omega)
theorem ck_L_n_330 : (al_L_330.drop 0).isEmpty = true := by decide +kernel
theorem ck_L_c_331 : ∀ i, i < 0 → (al_L_331.drop i).head?.all (fun alt => rf_run nm_cl nm_ct en_xs 8 xx_L kc_L cu_L po_L (some .boolean) 1 0 98 16364 (some mu_L_331) 5000 true 1421 alt) = true
  | i + 0, h => absurd h (by omega)
theorem ck_L_n_331 : (al_L_331.drop 0).isEmpty = true := by decide +kernel
theorem ck_L_c_332 : ∀ i, i < 0 → (al_L_332.drop i).head?.all (fun alt => rf_run nm_cl nm_ct en_xs 8 xx_L kc_L cu_L po_L (some .boolean) 1 0 98 16364 (some mu_L_332) 5000 true 1421 alt) = true
  | i + 0, h => absurd h (by omega)
theorem ck_L_n_332 : (al_L_332.drop 0).isEmpty = true := by decide +kernel
theorem ck_L_c_333 : ∀ i, i < 0 → (al_L_333.drop i).head?.all (fun alt => rf_run nm_cl nm_ct en_xs 8 xx_L kc_L cu_L po_L (some .boolean) 1 0 98 16364 (some mu_L_333) 5000 true 1421 alt) = true
  | i + 0, h => absurd h (by omega)
theorem ck_L_n_333 : (al_L_333.drop 0).isEmpty = true := by decide +kernel
theorem ck_L_c_334 : ∀ i, i < 0 → (al_L_334.drop i).head?.all (fun alt => rf_run nm_cl nm_ct en_xs 8 xx_L kc_L cu_L po_L (some .boolean) 1 0 98 16364 (some mu_L_334) 5000 true 1421 alt) = true
  | i + 0, h => absurd h (by omega)
theorem ck_L_n_334 : (al_L_334.drop 0).isEmpty = true := by decide +kernel
theorem ck_L_c_335 : ∀ i, i < 0 → (al_L_335.drop i).head?.all (fun alt => rf_run nm_cl nm_ct en_xs 8 xx_L kc_L cu_L po_L (some .boolean) 1 0 98 16364 (some mu_L_335) 5000 true 1421 alt) = true
  | i + 0, h => absurd h (by omega)
theorem ck_L_n_335 : (al_L_335.drop 0).isEmpty = true := by decide +kernel
theorem ck_L_b_336_0 : (al_L_336.drop 0).head?.all (fun alt => rf_run nm_cl nm_ct en_xs 8 xx_L kc_L cu_L po_L (some .boolean) 1 0 98 16364 (some mu_L_336) 5000 true 1421 alt) = true := by decide +kernel
theorem ck_L_c_336 : ∀ i, i < 1 → (al_L_336.drop i).head?.all (fun alt => rf_run nm_cl nm_ct en_xs 8 xx_L kc_L cu_L po_L (some .boolean) 1 0 98 16364 (some mu_L_336) 5000 true 1421 alt) = true
  | 0, _ => ck_L_b_336_0
  | i + 1, h => absurd h (by omega)
theorem ck_L_n_336 : (al_L_336.drop 1).isEmpty = true := by decide +kernel
theorem ck_L_c_337 : ∀ i, i < 0 → (al_L_337.drop i).head?.all (fun alt => rf_run nm_cl nm_ct en_xs 8 xx_L kc_L cu_L po_L (some .boolean) 1 0 98 16364 (some mu_L_337) 5000 true 1421 alt) = true
  | i + 0, h => absurd h (by omega)
theorem ck_L_n_337 : (al_L_337.drop 0).isEmpty = true := by decide +kernel
theorem ck_L_c_338 : ∀ i, i < 0 → (al_L_338.drop i).head?.all (fun alt => rf_run nm_cl nm_ct en_xs 8 xx_L kc_L cu_L po_L (some .boolean) 1 0 98 16364 (some mu_L_338) 5000 true 1421 alt) = true
  | i + 0, h => absurd h (by omega)
theorem ck_L_n_338 : (al_L_338.drop 0).isEmpty = true := by decide +kernel
theorem ck_L_b_339_0 : (al_L_339.drop 0).head?.all (fun alt => rf_run nm_cl nm_ct en_xs 8 xx_L kc_L cu_L po_L (some .boolean) 1 0 98 16364 (some mu_L_339) 5000 true 1421 alt) = true := by decide +kernel
theorem ck_L_c_339 : ∀ i, i < 1 → (al_L_339.drop i).head?.all (fun alt => rf_run nm_cl nm_ct en_xs 8 xx_L kc_L cu_L po_L (some .boolean) 1 0 98 16364 (some mu_L_339) 5000 true 1421 alt) = true
  | 0, _ => ck_L_b_339_0
  | i + 1, h => absurd h (by omega)
theorem ck_L_n_339 : (al_L_339.drop 1).isEmpty = true := by decide +kernel
theorem ck_L_c_340 : ∀ i, i < 0 → (al_L_340.drop i).head?.all (fun alt => rf_run nm_cl nm_ct en_xs 8 xx_L kc_L cu_L po_L (some .boolean) 1 0 98 16364 (some mu_L_340) 5000 true 1421 alt) = true
  | i + 0, h => absurd h (by omega)
theorem ck_L_n_340 : (al_L_340.drop 0).isEmpty = true := by decide +kernel
theorem ck_L_c_341 : ∀ i, i < 0 → (al_L_341.drop i).head?.all (fun alt => rf_run nm_cl nm_ct en_xs 8 xx_L kc_L cu_L po_L (some .boolean) 1 0 98 16364 (some mu_L_341) 5000 true 1421 alt) = true
  | i + 0, h => absurd h (by omega)
theorem ck_L_n_341 : (al_L_341.drop 0).isEmpty = true := by decide +kernel
theorem ck_L_c_342 : ∀ i, i < 0 → (al_L_342.drop i).head?.all (fun alt => rf_run nm_cl nm_ct en_xs 8 xx_L kc_L cu_L po_L (some .boolean) 1 0 98 16364 (some mu_L_342) 5000 true 1421 alt) = true
  | i + 0, h => absurd h (by omega)
theorem ck_L_n_342 : (al_L_342.drop 0).isEmpty = true := by decide +kernel
theorem ck_L_c_343 : ∀ i, i < 0 → (al_L_343.drop i).head?.all (fun alt => rf_run nm_cl nm_ct en_xs 8 xx_L kc_L cu_L po_L (some .boolean) 1 0 98 16364 (some mu_L_343) 5000 true 1421 alt) = true
  | i + 0, h => absurd h (by omega)
theorem ck_L_n_343 : (al_L_343.drop 0).isEmpty = true := by decide +kernel
theorem ck_L_c_344 : ∀ i, i < 0 → (al_L_344.drop i).head?.all (fun alt => rf_run nm_cl nm_ct en_xs 8 xx_L kc_L cu_L po_L (some .boolean) 1 0 98 16364 (some mu_L_344) 5000 true 1421 alt) = true
  | i + 0, h => absurd h (by omega)
theorem ck_L_n_344 : (al_L_344.drop 0).isEmpty = true := by decide +kernel
theorem ck_L_c_345 : ∀ i, i < 0 → (al_L_345.drop i).head?.all (fun alt => rf_run nm_cl nm_ct en_xs 8 xx_L kc_L cu_L po_L (some .boolean) 1 0 98 16364 (some mu_L_345) 5000 true 1421 alt) = true
  | i + 0, h => absurd h (by omega)
theorem ck_L_n_345 : (al_L_345.drop 0).isEmpty = true := by decide +kernel
theorem ck_L_c_346 : ∀ i, i < 0 → (al_L_346.drop i).head?.all (fun alt => rf_run nm_cl nm_ct en_xs 8 xx_L kc_L cu_L po_L (some .boolean) 1 0 98 16364 (some mu_L_346) 5000 true 1421 alt) = true
  | i + 0, h => absurd h (by omega)
theorem ck_L_n_346 : (al_L_346.drop 0).isEmpty = true := by decide +kernel
theorem ck_L_c_347 : ∀ i, i < 0 → (al_L_347.drop i).head?.all (fun alt => rf_run nm_cl nm_ct en_xs 8 xx_L kc_L cu_L po_L (some .boolean) 1 0 98 16364 (some mu_L_347) 5000 true 1421 alt) = true
  | i + 0, h => absurd h (by omega)
theorem ck_L_n_347 : (al_L_347.drop 0).isEmpty = true := by decide +kernel
theorem ck_L_c_348 : ∀ i, i < 0 → (al_L_348.drop i).head?.all (fun alt => rf_run nm_cl nm_ct en_xs 8 xx_L kc_L cu_L po_L (some .boolean) 1 0 98 16364 (some mu_L_348) 5000 true 1421 alt) = true
  | i + 0, h => absurd h (by omega)
theorem ck_L_n_348 : (al_L_348.drop 0).isEmpty = true := by decide +kernel
theorem ck_L_c_349 : ∀ i, i < 0 → (al_L_349.drop i).head?.all (fun alt => rf_run nm_cl nm_ct en_xs 8 xx_L kc_L cu_L po_L (some .boolean) 1 0 98 16364 (some mu_L_349) 5000 true 1421 alt) = true
  | i + 0, h => absurd h (by omega)
theorem ck_L_n_349 : (al_L_349.drop 0).isEmpty = true := by decide +kernel
theorem ck_L_b_350_0 : (al_L_350.drop 0).head?.all (fun alt => rf_run nm_cl nm_ct en_xs 8 xx_L kc_L cu_L po_L (some .boolean) 1 0 98 16364 (some mu_L_350) 5000 true 1421 alt) = true := by decide +kernel
theorem ck_L_c_350 : ∀ i, i < 1 → (al_L_350.drop i).head?.all (fun alt => rf_run nm_cl nm_ct en_xs 8 xx_L kc_L cu_L po_L (some .boolean) 1 0 98 16364 (some mu_L_350) 5000 true 1421 alt) = true
  | 0, _ => ck_L_b_350_0
  | i + 1, h => absurd h (by omega)
theorem ck_L_n_350 : (al_L_350.drop 1).isEmpty = true := by decide +kernel
theorem ck_L_c_351 : ∀ i, i < 0 → (al_L_351.drop i).head?.all (fun alt => rf_run nm_cl nm_ct en_xs 8 xx_L kc_L cu_L po_L (some .boolean) 1 0 98 16364 (some mu_L_351) 5000 true 1421 alt) = true
  | i + 0, h => absurd h (by omega)
theorem ck_L_n_351 : (al_L_351.drop 0).isEmpty = true := by decide +kernel
theorem ck_L_c_352 : ∀ i, i < 0 → (al_L_352.drop i).head?.all (fun alt => rf_run nm_cl nm_ct en_xs 8 xx_L kc_L cu_L po_L (some .boolean) 1 0 98 16364 (some mu_L_352) 5000 true 1421 alt) = true
  | i + 0, h => absurd h (by omega)
theorem ck_L_n_352 : (al_L_352.drop 0).isEmpty = true := by decide +kernel
theorem ck_L_c_353 : ∀ i, i < 0 → (al_L_353.drop i).head?.all (fun alt => rf_run nm_cl nm_ct en_xs 8 xx_L kc_L cu_L po_L (some .boolean) 1 0 98 16364 (some mu_L_353) 5000 true 1421 alt) = true
  | i + 0, h => absurd h (by omega)
theorem ck_L_n_353 : (al_L_353.drop 0).isEmpty = true := by decide +kernel
theorem ck_L_c_354 : ∀ i, i < 0 → (al_L_354.drop i).head?.all (fun alt => rf_run nm_cl nm_ct en_xs 8 xx_L kc_L cu_L po_L (some .boolean) 1 0 98 16364 (some mu_L_354) 5000 true 1421 alt) = true
  | i + 0, h => absurd h (by omega)
theorem ck_L_n_354 : (al_L_354.drop 0).isEmpty = true := by decide +kernel
theorem ck_L_c_355 : ∀ i, i < 0 → (al_L_355.drop i).head?.all (fun alt => rf_run nm_cl nm_ct en_xs 8 xx_L kc_L cu_L po_L (some .boolean) 1 0 98 16364 (some mu_L_355) 5000 true 1421 alt) = true
  | i + 0, h => absurd h (by omega)
theorem ck_L_n_355 : (al_L_355.drop 0).isEmpty = true := by decide +kernel
theorem ck_L_c_356 : ∀ i, i < 0 → (al_L_356.drop i).head?.all (fun alt => rf_run nm_cl nm_ct en_xs 8 xx_L kc_L cu_L po_L (some .boolean) 1 0 98 16364 (some mu_L_356) 5000 true 1421 alt) = true
  | i + 0, h => absurd h (by omega)
theorem ck_L_n_356 : (al_L_356.drop 0).isEmpty = true := by decide +kernel
theorem ck_L_c_357 : ∀ i, i < 0 → (al_L_357.drop i).head?.all (fun alt => rf_run nm_cl nm_ct en_xs 8 xx_L kc_L cu_L po_L (some .boolean) 1 0 98 16364 (some mu_L_357) 5000 true 1421 alt) = true
  | i + 0, h => absurd h (by omega)
theorem ck_L_n_357 : (al_L_357.drop 0).isEmpty = true := by decide +kernel
theorem ck_L_c_358 : ∀ i, i < 0 → (al_L_358.drop i).head?.all (fun alt => rf_run nm_cl nm_ct en_xs 8 xx_L kc_L cu_L po_L (some .boolean) 1 0 98 16364 (some mu_L_358) 5000 true 1421 alt) = true
  | i + 0, h => absurd h (by omega)
theorem ck_L_n_358 : (al_L_358.drop 0).isEmpty = true := by decide +kernel
theorem ck_L_c_359 : ∀ i, i < 0 → (al_L_359.drop i).head?.all (fun alt => rf_run nm_cl nm_ct en_xs 8 xx_L kc_L cu_L po_L (some .boolean) 1 0 98 16364 (some mu_L_359) 5000 true 1421 alt) = true
  | i + 0, h => absurd h (by omega)
theorem ck_L_n_359 : (al_L_359.drop 0).isEmpty = true := by decide +kernel
theorem ck_L_c_360 : ∀ i, i < 0 → (al_L_360.drop i).head?.all (fun alt => rf_run nm_cl nm_ct en_xs 8 xx_L kc_L cu_L po_L (some .boolean) 1 0 98 16364 (some mu_L_360) 5000 true 1421 alt) = true
  | i + 0, h => absurd h (by omega)
theorem ck_L_n_360 : (al_L_360.drop 0).isEmpty = true := by decide +kernel
theorem ck_L_c_361 : ∀ i, i < 0 → (al_L_361.drop i).head?.all (fun alt => rf_run nm_cl nm_ct en_xs 8 xx_L kc_L cu_L po_L (some .boolean) 1 0 98 16364 (some mu_L_361) 5000 true 1421 alt) = true
  | i + 0, h => absurd h (by omega)
theorem ck_L_n_361 : (al_L_361.drop 0).isEmpty = true := by decide +kernel
theorem ck_L_c_362 : ∀ i, i < 0 → (al_L_362.drop i).head?.all (fun alt => rf_run nm_cl nm_ct en_xs 8 xx_L kc_L cu_L po_L (some .boolean) 1 0 98 16364 (some mu_L_362) 5000 true 1421 alt) = true
  | i + 0, h => absurd h (by omega)
theorem ck_L_n_362 : (al_L_362.drop 0).isEmpty = true := by decide +kernel
theorem ck_L_c_363 : ∀ i, i < 0 → (al_L_363.drop i).head?.all (fun alt => rf_run nm_cl nm_ct en_xs 8 xx_L kc_L cu_L po_L (some .boolean) 1 0 98 16364 (some mu_L_363) 5000 true 1421 alt) = true
  | i + 0, h => absurd h (by omega)
theorem ck_L_n_363 : (al_L_363.drop 0).isEmpty = true := by decide +kernel
theorem ck_L_c_364 : ∀ i, i < 0 → (al_L_364.drop i).head?.all (fun alt => rf_run nm_cl nm_ct en_xs 8 xx_L kc_L cu_L po_L (some .boolean) 1 0 98 16364 (some mu_L_364) 5000 true 1421 alt) = true
  | i + 0, h => absurd h (by omega)
theorem ck_L_n_364 : (al_L_364.drop 0).isEmpty = true := by decide +kernel
theorem ck_L_c_365 : ∀ i, i < 0 → (al_L_365.drop i).head?.all (fun alt => rf_run nm_cl nm_ct en_xs 8 xx_L kc_L cu_L po_L (some .boolean) 1 0 98 16364 (some mu_L_365) 5000 true 1421 alt) = true
  | i + 0, h => absurd h (by omega)
theorem ck_L_n_365 : (al_L_365.drop 0).isEmpty = true := by decide +kernel
theorem ck_L_c_366 : ∀ i, i < 0 → (al_L_366.drop i).head?.all (fun alt => rf_run nm_cl nm_ct en_xs 8 xx_L kc_L cu_L po_L (some .boolean) 1 0 98 16364 (some mu_L_366) 5000 true 1421 alt) = true
  | i + 0, h => absurd h (by omega)
theorem ck_L_n_366 : (al_L_366.drop 0).isEmpty = true := by decide +kernel
theorem ck_L_c_367 : ∀ i, i < 0 → (al_L_367.drop i).head?.all (fun alt => rf_run nm_cl nm_ct en_xs 8 xx_L kc_L cu_L po_L (some .boolean) 1 0 98 16364 (some mu_L_367) 5000 true 1421 alt) = true
  | i + 0, h => absurd h (by omega)
theorem ck_L_n_367 : (al_L_367.drop 0).isEmpty = true := by decide +kernel
theorem ck_L_b_368_0 : (al_L_368.drop 0).head?.all (fun alt => rf_run nm_cl nm_ct en_xs 8 xx_L kc_L cu_L po_L (some .boolean) 1 0 98 16364 (some mu_L_368) 5000 true 1421 alt) = true := by decide +kernel
theorem ck_L_c_368 : ∀ i, i < 1 → (al_L_368.drop i).head?.all (fun alt => rf_run nm_cl nm_ct en_xs 8 xx_L kc_L cu_L po_L (some .boolean) 1 0 98 16364 (some mu_L_368) 5000 true 1421 alt) = true
  | 0, _ => ck_L_b_368_0
  | i + 1, h => absurd h (by omega)
theorem ck_L_n_368 : (al_L_368.drop 1).isEmpty = true := by decide +kernel
theorem ck_L_c_369 : ∀ i, i < 0 → (al_L_369.drop i).head?.all (fun alt => rf_run nm_cl nm_ct en_xs 8 xx_L kc_L cu_L po_L (some .boolean) 1 0 98 16364 (some mu_L_369) 5000 true 1421 alt) = true
  | i + 0, h => absurd h (by omega)
theorem ck_L_n_369 : (al_L_369.drop 0).isEmpty = true := by decide +kernel
theorem ck_L_c_370 : ∀ i, i < 0 → (al_L_370.drop i).head?.all (fun alt => rf_run nm_cl nm_ct en_xs 8 xx_L kc_L cu_L po_L (some .boolean) 1 0 98 16364 (some mu_L_370) 5000 true 1421 alt) = true
  | i + 0, h => absurd h (by omega)
theorem ck_L_n_370 : (al_L_370.drop 0).isEmpty = true := by decide +kernel
theorem ck_L_c_371 : ∀ i, i < 0 → (al_L_371.drop i).head?.all (fun alt => rf_run nm_cl nm_ct en_xs 8 xx_L kc_L cu_L po_L (some .boolean) 1 0 98 16364 (some mu_L_371) 5000 true 1421 alt) = true
  | i + 0, h => absurd h (by omega)
theorem ck_L_n_371 : (al_L_371.drop 0).isEmpty = true := by decide +kernel
theorem ck_L_c_372 : ∀ i, i < 0 → (al_L_372.drop i).head?.all (fun alt => rf_run nm_cl nm_ct en_xs 8 xx_L kc_L cu_L po_L (some .boolean) 1 0 98 16364 (some mu_L_372) 5000 true 1421 alt) = true
  | i + 0, h => absurd h (by omega)
theorem ck_L_n_372 : (al_L_372.drop 0).isEmpty = true := by decide +kernel
theorem ck_L_c_373 : ∀ i, i < 0 → (al_L_373.drop i).head?.all (fun alt => rf_run nm_cl nm_ct en_xs 8 xx_L kc_L cu_L po_L (some .boolean) 1 0 98 16364 (some mu_L_373) 5000 true 1421 alt) = true
  | i + 0, h => absurd h (by omega)
theorem ck_L_n_373 : (al_L_373.drop 0).isEmpty = true := by decide +kernel
theorem ck_L_c_374 : ∀ i, i < 0 → (al_L_374.drop i).head?.all (fun alt => rf_run nm_cl nm_ct en_xs 8 xx_L kc_L cu_L po_L (some .boolean) 1 0 98 16364 (some mu_L_374) 5000 true 1421 alt) = true
  | i + 0, h => absurd h (by omega)
theorem ck_L_n_374 : (al_L_374.drop 0).isEmpty = true := by decide +kernel
theorem ck_L_c_375 : ∀ i, i < 0 → (al_L_375.drop i).head?.all (fun alt => rf_run nm_cl nm_ct en_xs 8 xx_L kc_L cu_L po_L (some .boolean) 1 0 98 16364 (some mu_L_375) 5000 true 1421 alt) = true
  | i + 0, h => absurd h (by omega)
theorem ck_L_n_375 : (al_L_375.drop 0).isEmpty = true := by decide +kernel
theorem ck_L_c_376 : ∀ i, i < 0 → (al_L_376.drop i).head?.all (fun alt => rf_run nm_cl nm_ct en_xs 8 xx_L kc_L cu_L po_L (some .boolean) 1 0 98 16364 (some mu_L_376) 5000 true 1421 alt) = true
  | i + 0, h => absurd h (by omega)
theorem ck_L_n_376 : (al_L_376.drop 0).isEmpty = true := by decide +kernel
theorem ck_L_c_377 : ∀ i, i < 0 → (al_L_377.drop i).head?.all (fun alt => rf_run nm_cl nm_ct en_xs 8 xx_L kc_L cu_L po_L (some .boolean) 1 0 98 16364 (some mu_L_377) 5000 true 1421 alt) = true
  | i + 0, h => absurd h (by omega)
theorem ck_L_n_377 : (al_L_377.drop 0).isEmpty = true := by decide +kernel
theorem ck_L_c_378 : ∀ i, i < 0 → (al_L_378.drop i).head?.all (fun alt => rf_run nm_cl nm_ct en_xs 8 xx_L kc_L cu_L po_L (some .boolean) 1 0 98 16364 (some mu_L_378) 5000 true 1421 alt) = true
  | i + 0, h => absurd h (by omega)
theorem ck_L_n_378 : (al_L_378.drop 0).isEmpty = true := by decide +kernel
theorem ck_L_c_379 : ∀ i, i < 0 → (al_L_379.drop i).head?.all (fun alt => rf_run nm_cl nm_ct en_xs 8 xx_L kc_L cu_L po_L (some .boolean) 1 0 98 16364 (some mu_L_379) 5000 true 1421 alt) = true
  | i + 0, h => absurd h (by omega)
theorem ck_L_n_379 : (al_L_379.drop 0).isEmpty = true := by decide +kernel
theorem ck_L_c_380 : ∀ i, i < 0 → (al_L_380.drop i).head?.all (fun alt => rf_run nm_cl nm_ct en_xs 8 xx_L kc_L cu_L po_L (some .boolean) 1 0 98 16364 (some mu_L_380) 5000 true 1421 alt) = true
  | i + 0, h => absurd h (by omega)
theorem ck_L_n_380 : (al_L_380.drop 0).isEmpty = true := by decide +kernel
theorem ck_L_c_381 : ∀ i, i < 0 → (al_L_381.drop i).head?.all (fun alt => rf_run nm_cl nm_ct en_xs 8 xx_L kc_L cu_L po_L (some .boolean) 1 0 98 16364 (some mu_L_381) 5000 true 1421 alt) = true
  | i + 0, h => absurd h (by omega)
theorem ck_L_n_381 : (al_L_381.drop 0).isEmpty = true := by decide +kernel
theorem ck_L_c_382 : ∀ i, i < 0 → (al_L_382.drop i).head?.all (fun alt => rf_run nm_cl nm_ct en_xs 8 xx_L kc_L cu_L po_L (some .boolean) 1 0 98 16364 (some mu_L_382) 5000 true 1421 alt) = true
  | i + 0, h => absurd h (by omega)
theorem ck_L_n_382 : (al_L_382.drop 0).isEmpty = true := by decide +kernel
theorem ck_L_c_383 : ∀ i, i < 0 → (al_L_383.drop i).head?.all (fun alt => rf_run nm_cl nm_ct en_xs 8 xx_L kc_L cu_L po_L (some .boolean) 1 0 98 16364 (some mu_L_383) 5000 true 1421 alt) = true
  | i + 0, h => absurd h (by omega)
theorem ck_L_n_383 : (al_L_383.drop 0).isEmpty = true := by decide +kernel
theorem ck_L_c_384 : ∀ i, i < 0 → (al_L_384.drop i).head?.all (fun alt => rf_run nm_cl nm_ct en_xs 8 xx_L kc_L cu_L po_L (some .boolean) 1 0 98 16364 (some mu_L_384) 5000 true 1421 alt) = true
  | i + 0, h => absurd h (by omega)
theorem ck_L_n_384 : (al_L_384.drop 0).isEmpty = true := by decide +kernel
theorem ck_L_c_385 : ∀ i, i < 0 → (al_L_385.drop i).head?.all (fun alt => rf_run nm_cl nm_ct en_xs 8 xx_L kc_L cu_L po_L (some .boolean) 1 0 98 16364 (some mu_L_385) 5000 true 1421 alt) = true
  | i + 0, h => absurd h (by omega)
theorem ck_L_n_385 : (al_L_385.drop 0).isEmpty = true := by decide +kernel
theorem ck_L_c_386 : ∀ i, i < 0 → (al_L_386.drop i).head?.all (fun alt => rf_run nm_cl nm_ct en_xs 8 xx_L kc_L cu_L po_L (some .boolean) 1 0 98 16364 (some mu_L_386) 5000 true 1421 alt) = true
  | i + 0, h => absurd h (by omega)
theorem ck_L_n_386 : (al_L_386.drop 0).isEmpty = true := by decide +kernel
theorem ck_L_c_387 : ∀ i, i < 0 → (al_L_387.drop i).head?.all (fun alt => rf_run nm_cl nm_ct en_xs 8 xx_L kc_L cu_L po_L (some .boolean) 1 0 98 16364 (some mu_L_387) 5000 true 1421 alt) = true
  | i + 0, h => absurd h (by omega)
theorem ck_L_n_387 : (al_L_387.drop 0).isEmpty = true := by decide +kernel
theorem ck_L_c_388 : ∀ i, i < 0 → (al_L_388.drop i).head?.all (fun alt => rf_run nm_cl nm_ct en_xs 8 xx_L kc_L cu_L po_L (some .boolean) 1 0 98 16364 (some mu_L_388) 5000 true 1421 alt) = true
  | i + 0, h => absurd h (by omega)
theorem ck_L_n_388 : (al_L_388.drop 0).isEmpty = true := by decide +kernel
theorem ck_L_c_389 : ∀ i, i < 0 → (al_L_389.drop i).head?.all (fun alt => rf_run nm_cl nm_ct en_xs 8 xx_L kc_L cu_L po_L (some .boolean) 1 0 98 16364 (some mu_L_389) 5000 true 1421 alt) = true
  | i + 0, h => absurd h (by omega)
theorem ck_L_n_389 : (al_L_389.drop 0).isEmpty = true := by decide +kernel
theorem ck_L_c_390 : ∀ i, i < 0 → (al_L_390.drop i).head?.all (fun alt => rf_run nm_cl nm_ct en_xs 8 xx_L kc_L cu_L po_L (some .boolean) 1 0 98 16364 (some mu_L_390) 5000 true 1421 alt) = true
  | i + 0, h => absurd h (by omega)
theorem ck_L_n_390 : (al_L_390.drop 0).isEmpty = true := by decide +kernel
theorem ck_L_c_391 : ∀ i, i < 0 → (al_L_391.drop i).head?.all (fun alt => rf_run nm_cl nm_ct en_xs 8 xx_L kc_L cu_L po_L (some .boolean) 1 0 98 16364 (some mu_L_391) 5000 true 1421 alt) = true
  | i + 0, h => absurd h (by omega)
theorem ck_L_n_391 : (al_L_391.drop 0).isEmpty = true := by decide +kernel
theorem ck_L_c_392 : ∀ i, i < 0 → (al_L_392.drop i).head?.all (fun alt => rf_run nm_cl nm_ct en_xs 8 xx_L kc_L cu_L po_L (some .boolean) 1 0 98 16364 (some mu_L_392) 5000 true 1421 alt) = true
  | i + 0, h => absurd h (by omega)
theorem ck_L_n_392 : (al_L_392.drop 0).isEmpty = true := by decide +kernel
theorem ck_L_c_393 : ∀ i, i < 0 → (al_L_393.drop i).head?.all (fun alt => rf_run nm_cl nm_ct en_xs 8 xx_L kc_L cu_L po_L (some .boolean) 1 0 98 16364 (some mu_L_393) 5000 true 1421 alt) = true
  | i + 0, h => absurd h (by omega)
theorem ck_L_n_393 : (al_L_393.drop 0).isEmpty = true := by decide +kernel
theorem ck_L_c_394 : ∀ i, i < 0 → (al_L_394.drop i).head?.all (fun alt => rf_run nm_cl nm_ct en_xs 8 xx_L kc_L cu_L po_L (some .boolean) 1 0 98 16364 (some mu_L_394) 5000 true 1421 alt) = true
  | i + 0, h => absurd h (by omega)
theorem ck_L_n_394 : (al_L_394.drop 0).isEmpty = true := by decide +kernel
theorem ck_L_c_395 : ∀ i, i < 0 → (al_L_395.drop i).head?.all (fun alt => rf_run nm_cl nm_ct en_xs 8 xx_L kc_L cu_L po_L (some .boolean) 1 0 98 16364 (some mu_L_395) 5000 true 1421 alt) = true
  | i + 0, h => absurd h (by omega)
theorem ck_L_n_395 : (al_L_395.drop 0).isEmpty = true := by decide +kernel
theorem ck_L_c_396 : ∀ i, i < 0 → (al_L_396.drop i).head?.all (fun alt => rf_run nm_cl nm_ct en_xs 8 xx_L kc_L cu_L po_L (some .boolean) 1 0 98 16364 (some mu_L_396) 5000 true 1421 alt) = true
  | i + 0, h => absurd h (by omega)
theorem ck_L_n_396 : (al_L_396.drop 0).isEmpty = true := by decide +kernel
theorem ck_L_c_397 : ∀ i, i < 0 → (al_L_397.drop i).head?.all (fun alt => rf_run nm_cl nm_ct en_xs 8 xx_L kc_L cu_L po_L (some .boolean) 1 0 98 16364 (some mu_L_397) 5000 true 1421 alt) = true
  | i + 0, h => absurd h (by omega)
theorem ck_L_n_397 : (al_L_397.drop 0).isEmpty = true := by decide +kernel
theorem ck_L_c_398 : ∀ i, i < 0 → (al_L_398.drop i).head?.all (fun alt => rf_run nm_cl nm_ct en_xs 8 xx_L kc_L cu_L po_L (some .boolean) 1 0 98 16364 (some mu_L_398) 5000 true 1421 alt) = true
  | i + 0, h => absurd h (by omega)
theorem ck_L_n_398 : (al_L_398.drop 0).isEmpty = true := by decide +kernel
theorem ck_L_c_399 : ∀ i, i < 0 → (al_L_399.drop i).head?.all (fun alt => rf_run nm_cl nm_ct en_xs 8 xx_L kc_L cu_L po_L (some .boolean) 1 0 98 16364 (some mu_L_399) 5000 true 1421 alt) = true
  | i + 0, h => absurd h (by omega)
theorem ck_L_n_399 : (al_L_399.drop 0).isEmpty = true := by decide +kernel
theorem ck_L_c_400 : ∀ i, i < 0 → (al_L_400.drop i).head?.all (fun alt => rf_run nm_cl nm_ct en_xs 8 xx_L kc_L cu_L po_L (some .boolean) 1 0 98 16364 (some mu_L_400) 5000 true 1421 alt) = true
  | i + 0, h => absurd h (by omega)
theorem ck_L_n_400 : (al_L_400.drop 0).isEmpty = true := by decide +kernel
theorem ck_L_c_401 : ∀ i, i < 0 → (al_L_401.drop i).head?.all (fun alt => rf_run nm_cl nm_ct en_xs 8 xx_L kc_L cu_L po_L (some .boolean) 1 0 98 16364 (some mu_L_401) 5000 true 1421 alt) = true
  | i + 0, h => absurd h (by omega)
theorem ck_L_n_401 : (al_L_401.drop 0).isEmpty = true := by decide +kernel
theorem ck_L_c_402 : ∀ i, i < 0 → (al_L_402.drop i).head?.all (fun alt => rf_run nm_cl nm_ct en_xs 8 xx_L kc_L cu_L po_L (some .boolean) 1 0 98 16364 (some mu_L_402) 5000 true 1421 alt) = true
  | i + 0, h => absurd h (by omega)
theorem ck_L_n_402 : (al_L_402.drop 0).isEmpty = true := by decide +kernel
theorem ck_L_c_403 : ∀ i, i < 0 → (al_L_403.drop i).head?.all (fun alt => rf_run nm_cl nm_ct en_xs 8 xx_L kc_L cu_L po_L (some .boolean) 1 0 98 16364 (some mu_L_403) 5000 true 1421 alt) = true
  | i + 0, h => absurd h (by omega)
theorem ck_L_n_403 : (al_L_403.drop 0).isEmpty = true := by decide +kernel
theorem ck_L_c_404 : ∀ i, i < 0 → (al_L_404.drop i).head?.all (fun alt => rf_run nm_cl nm_ct en_xs 8 xx_L kc_L cu_L po_L (some .boolean) 1 0 98 16364 (some mu_L_404) 5000 true 1421 alt) = true
  | i + 0, h => absurd h (by omega)
theorem ck_L_n_404 : (al_L_404.drop 0).isEmpty = true := by decide +kernel
theorem ck_L_c_405 : ∀ i, i < 0 → (al_L_405.drop i).head?.all (fun alt => rf_run nm_cl nm_ct en_xs 8 xx_L kc_L cu_L po_L (some .boolean) 1 0 98 16364 (some mu_L_405) 5000 true 1421 alt) = true
  | i + 0, h => absurd h (by omega)
theorem ck_L_n_405 : (al_L_405.drop 0).isEmpty = true := by decide +kernel
theorem ck_L_c_406 : ∀ i, i < 0 → (al_L_406.drop i).head?.all (fun alt => rf_run nm_cl nm_ct en_xs 8 xx_L kc_L cu_L po_L (some .boolean) 1 0 98 16364 (some mu_L_406) 5000 true 1421 alt) = true
  | i + 0, h => absurd h (by omega)
theorem ck_L_n_406 : (al_L_406.drop 0).isEmpty = true := by decide +kernel
theorem ck_L_c_407 : ∀ i, i < 0 → (al_L_407.drop i).head?.all (fun alt => rf_run nm_cl nm_ct en_xs 8 xx_L kc_L cu_L po_L (some .boolean) 1 0 98 16364 (some mu_L_407) 5000 true 1421 alt) = true
  | i + 0, h => absurd h (by omega)
theorem ck_L_n_407 : (al_L_407.drop 0).isEmpty = true := by decide +kernel
theorem ck_L_b_408_0 : (al_L_408.drop 0).head?.all (fun alt => rf_run nm_cl nm_ct en_xs 8 xx_L kc_L cu_L po_L (some .boolean) 1 0 98 16364 (some mu_L_408) 5000 true 1421 alt) = true := by decide +kernel
theorem ck_L_c_408 : ∀ i, i < 1 → (al_L_408.drop i).head?.all (fun alt => rf_run nm_cl nm_ct en_xs 8 xx_L kc_L cu_L po_L (some .boolean) 1 0 98 16364 (some mu_L_408) 5000 true 1421 alt) = true
  | 0, _ => ck_L_b_408_0
  | i + 1, h => absurd h (by omega)
theorem ck_L_n_408 : (al_L_408.drop 1).isEmpty = true := by decide +kernel
theorem ck_L_c_409 : ∀ i, i < 0 → (al_L_409.drop i).head?.all (fun alt => rf_run nm_cl nm_ct en_xs 8 xx_L kc_L cu_L po_L (some .boolean) 1 0 98 16364 (some mu_L_409) 5000 true 1421 alt) = true
  | i + 0, h => absurd h (by omega)
theorem ck_L_n_409 : (al_L_409.drop 0).isEmpty = true := by decide +kernel
theorem ck_L_c_410 : ∀ i, i < 0 → (al_L_410.drop i).head?.all (fun alt => rf_run nm_cl nm_ct en_xs 8 xx_L kc_L cu_L po_L (some .boolean) 1 0 98 16364 (some mu_L_410) 5000 true 1421 alt) = true
  | i + 0, h => absurd h (by omega)
theorem ck_L_n_410 : (al_L_410.drop 0).isEmpty = true := by decide +kernel
theorem ck_L_c_411 : ∀ i, i < 0 → (al_L_411.drop i).head?.all (fun alt => rf_run nm_cl nm_ct en_xs 8 xx_L kc_L cu_L po_L (some .boolean) 1 0 98 16364 (some mu_L_411) 5000 true 1421 alt) = true
  | i + 0, h => absurd h (by omega)
theorem ck_L_n_411 : (al_L_411.drop 0).isEmpty = true := by decide +kernel
theorem ck_L_c_412 : ∀ i, i < 0 → (al_L_412.drop i).head?.all (fun alt => rf_run nm_cl nm_ct en_xs 8 xx_L kc_L cu_L po_L (some .boolean) 1 0 98 16364 (some mu_L_412) 5000 true 1421 alt) = true
  | i + 0, h => absurd h (by omega)
theorem ck_L_n_412 : (al_L_412.drop 0).isEmpty = true := by decide +kernel
theorem ck_L_c_413 : ∀ i, i < 0 → (al_L_413.drop i).head?.all (fun alt => rf_run nm_cl nm_ct en_xs 8 xx_L kc_L cu_L po_L (some .boolean) 1 0 98 16364 (some mu_L_413) 5000 true 1421 alt) = true
  | i + 0, h => absurd h (by omega)
theorem ck_L_n_413 : (al_L_413.drop 0).isEmpty = true := by decide +kernel
theorem ck_L_c_414 : ∀ i, i < 0 → (al_L_414.drop i).head?.all (fun alt => rf_run nm_cl nm_ct en_xs 8 xx_L kc_L cu_L po_L (some .boolean) 1 0 98 16364 (some mu_L_414) 5000 true 1421 alt) = true
  | i + 0, h => absurd h (by omega)
theorem ck_L_n_414 : (al_L_414.drop 0).isEmpty = true := by decide +kernel
theorem ck_L_c_415 : ∀ i, i < 0 → (al_L_415.drop i).head?.all (fun alt => rf_run nm_cl nm_ct en_xs 8 xx_L kc_L cu_L po_L (some .boolean) 1 0 98 16364 (some mu_L_415) 5000 true 1421 alt) = true
  | i + 0, h => absurd h (by omega)
theorem ck_L_n_415 : (al_L_415.drop 0).isEmpty = true := by decide +kernel
theorem ck_L_c_416 : ∀ i, i < 0 → (al_L_416.drop i).head?.all (fun alt => rf_run nm_cl nm_ct en_xs 8 xx_L kc_L cu_L po_L (some .boolean) 1 0 98 16364 (some mu_L_416) 5000 true 1421 alt) = true
  | i + 0, h => absurd h (by omega)
theorem ck_L_n_416 : (al_L_416.drop 0).isEmpty = true := by decide +kernel
theorem ck_L_c_417 : ∀ i, i < 0 → (al_L_417.drop i).head?.all (fun alt => rf_run nm_cl nm_ct en_xs 8 xx_L kc_L cu_L po_L (some .boolean) 1 0 98 16364 (some mu_L_417) 5000 true 1421 alt) = true
  | i + 0, h => absurd h (by omega)
theorem ck_L_n_417 : (al_L_417.drop 0).isEmpty = true := by decide +kernel
theorem ck_L_c_418 : ∀ i, i < 0 → (al_L_418.drop i).head?.all (fun alt => rf_run nm_cl nm_ct en_xs 8 xx_L kc_L cu_L po_L (some .boolean) 1 0 98 16364 (some mu_L_418) 5000 true 1421 alt) = true
  | i + 0, h => absurd h (by omega)
theorem ck_L_n_418 : (al_L_418.drop 0).isEmpty = true := by decide +kernel
theorem ck_L_c_419 : ∀ i, i < 0 → (al_L_419.drop i).head?.all (fun alt => rf_run nm_cl nm_ct en_xs 8 xx_L kc_L cu_L po_L (some .boolean) 1 0 98 16364 (some mu_L_419) 5000 true 1421 alt) = true
  | i + 0, h => absurd h (by omega)
theorem ck_L_n_419 : (al_L_419.drop 0).isEmpty = true := by decide +kernel
theorem ck_L_c_420 : ∀ i, i < 0 → (al_L_420.drop i).head?.all (fun alt => rf_run nm_cl nm_ct en_xs 8 xx_L kc_L cu_L po_L (some .boolean) 1 0 98 16364 (some mu_L_420) 5000 true 1421 alt) = true
  | i + 0, h => absurd h (by omega)
theorem ck_L_n_420 : (al_L_420.drop 0).isEmpty = true := by decide +kernel
theorem ck_L_c_421 : ∀ i, i < 0 → (al_L_421.drop i).head?.all (fun alt => rf_run nm_cl nm_ct en_xs 8 xx_L kc_L cu_L po_L (some .boolean) 1 0 98 16364 (some mu_L_421) 5000 true 1421 alt) = true
  | i + 0, h => absurd h (by omega)
theorem ck_L_n_421 : (al_L_421.drop 0).isEmpty = true := by decide +kernel
theorem ck_L_c_422 : ∀ i, i < 0 → (al_L_422.drop i).head?.all (fun alt => rf_run nm_cl nm_ct en_xs 8 xx_L kc_L cu_L po_L (some .boolean) 1 0 98 16364 (some mu_L_422) 5000 true 1421 alt) = true
  | i + 0, h => absurd h (by omega)
theorem ck_L_n_422 : (al_L_422.drop 0).isEmpty = true := by decide +kernel
theorem ck_L_c_423 : ∀ i, i < 0 → (al_L_423.drop i).head?.all (fun alt => rf_run nm_cl nm_ct en_xs 8 xx_L kc_L cu_L po_L (some .boolean) 1 0 98 16364 (some mu_L_423) 5000 true 1421 alt) = true
  | i + 0, h => absurd h (by omega)
theorem ck_L_n_423 : (al_L_423.drop 0).isEmpty = true := by decide +kernel
theorem ck_L_c_424 : ∀ i, i < 0 → (al_L_424.drop i).head?.all (fun alt => rf_run nm_cl nm_ct en_xs 8 xx_L kc_L cu_L po_L (some .boolean) 1 0 98 16364 (some mu_L_424) 5000 true 1421 alt) = true
  | i + 0, h => absurd h (by omega)
theorem ck_L_n_424 : (al_L_424.drop 0).isEmpty = true := by decide +kernel
theorem ck_L_c_425 : ∀ i, i < 0 → (al_L_425.drop i).head?.all (fun alt => rf_run nm_cl nm_ct en_xs 8 xx_L kc_L cu_L po_L (some .boolean) 1 0 98 16364 (some mu_L_425) 5000 true 1421 alt) = true
  | i + 0, h => absurd h (by omega)
theorem ck_L_n_425 : (al_L_425.drop 0).isEmpty = true := by decide +kernel
theorem ck_L_c_426 : ∀ i, i < 0 → (al_L_426.drop i).head?.all (fun alt => rf_run nm_cl nm_ct en_xs 8 xx_L kc_L cu_L po_L (some .boolean) 1 0 98 16364 (some mu_L_426) 5000 true 1421 alt) = true
  | i + 0, h => absurd h (by omega)
theorem ck_L_n_426 : (al_L_426.drop 0).isEmpty = true := by decide +kernel
theorem ck_L_c_427 : ∀ i, i < 0 → (al_L_427.drop i).head?.all (fun alt => rf_run nm_cl nm_ct en_xs 8 xx_L kc_L cu_L po_L (some .boolean) 1 0 98 16364 (some mu_L_427) 5000 true 1421 alt) = true
  | i + 0, h => absurd h (by omega)
theorem ck_L_n_427 : (al_L_427.drop 0).isEmpty = true := by decide +kernel
theorem ck_L_c_428 : ∀ i, i < 0 → (al_L_428.drop i).head?.all (fun alt => rf_run nm_cl nm_ct en_xs 8 xx_L kc_L cu_L po_L (some .boolean) 1 0 98 16364 (some mu_L_428) 5000 true 1421 alt) = true
  | i + 0, h => absurd h (by omega)
theorem ck_L_n_428 : (al_L_428.drop 0).isEmpty = true := by decide +kernel
theorem ck_L_c_429 : ∀ i, i < 0 → (al_L_429.drop i).head?.all (fun alt => rf_run nm_cl nm_ct en_xs 8 xx_L kc_L cu_L po_L (some .boolean) 1 0 98 16364 (some mu_L_429) 5000 true 1421 alt) = true
  | i + 0, h => absurd h (by omega)
theorem ck_L_n_429 : (al_L_429.drop 0).isEmpty = true := by decide +kernel
theorem ck_L_c_430 : ∀ i, i < 0 → (al_L_430.drop i).head?.all (fun alt => rf_run nm_cl nm_ct en_xs 8 xx_L kc_L cu_L po_L (some .boolean) 1 0 98 16364 (some mu_L_430) 5000 true 1421 alt) = true
  | i + 0, h => absurd h (by omega)
theorem ck_L_n_430 : (al_L_430.drop 0).isEmpty = true := by decide +kernel
theorem ck_L_c_431 : ∀ i, i < 0 → (al_L_431.drop i).head?.all (fun alt => rf_run nm_cl nm_ct en_xs 8 xx_L kc_L cu_L po_L (some .boolean) 1 0 98 16364 (some mu_L_431) 5000 true 1421 alt) = true
  | i + 0, h => absurd h (by omega)
theorem ck_L_n_431 : (al_L_431.drop 0).isEmpty = true := by decide +kernel
theorem ck_L_c_432 : ∀ i, i < 0 → (al_L_432.drop i).head?.all (fun alt => rf_run nm_cl nm_ct en_xs 8 xx_L kc_L cu_L po_L (some .boolean) 1 0 98 16364 (some mu_L_432) 5000 true 1421 alt) = true
  | i + 0, h => absurd h (by omega)
theorem ck_L_n_432 : (al_L_432.drop 0).isEmpty = true := by decide +kernel
theorem ck_L_c_433 : ∀ i, i < 0 → (al_L_433.drop i).head?.all (fun alt => rf_run nm_cl nm_ct en_xs 8 xx_L kc_L cu_L po_L (some .boolean) 1 0 98 16364 (some mu_L_433) 5000 true 1421 alt) = true
  | i + 0, h => absurd h (by omega)
theorem ck_L_n_433 : (al_L_433.drop 0).isEmpty = true := by decide +kernel
theorem ck_L_c_434 : ∀ i, i < 0 → (al_L_434.drop i).head?.all (fun alt => rf_run nm_cl nm_ct en_xs 8 xx_L kc_L cu_L po_L (some .boolean) 1 0 98 16364 (some mu_L_434) 5000 true 1421 alt) = true
  | i + 0, h => absurd h (by omega)
theorem ck_L_n_434 : (al_L_434.drop 0).isEmpty = true := by decide +kernel
theorem ck_L_c_435 : ∀ i, i < 0 → (al_L_435.drop i).head?.all (fun alt => rf_run nm_cl nm_ct en_xs 8 xx_L kc_L cu_L po_L (some .boolean) 1 0 98 16364 (some mu_L_435) 5000 true 1421 alt) = true
  | i + 0, h => absurd h (by omega)
theorem ck_L_n_435 : (al_L_435.drop 0).isEmpty = true := by decide +kernel
theorem ck_L_c_436 : ∀ i, i < 0 → (al_L_436.drop i).head?.all (fun alt => rf_run nm_cl nm_ct en_xs 8 xx_L kc_L cu_L po_L (some .boolean) 1 0 98 16364 (some mu_L_436) 5000 true 1421 alt) = true
  | i + 0, h => absurd h (by omega)
theorem ck_L_n_436 : (al_L_436.drop 0).isEmpty = true := by decide +kernel
theorem ck_L_c_437 : ∀ i, i < 0 → (al_L_437.drop i).head?.all (fun alt => rf_run nm_cl nm_ct en_xs 8 xx_L kc_L cu_L po_L (some .boolean) 1 0 98 16364 (some mu_L_437) 5000 true 1421 alt) = true
  | i + 0, h => absurd h (by omega)
theorem ck_L_n_437 : (al_L_437.drop 0).isEmpty = true := by decide +kernel
theorem ck_L_c_438 : ∀ i, i < 0 → (al_L_438.drop i).head?.all (fun alt => rf_run nm_cl nm_ct en_xs 8 xx_L kc_L cu_L po_L (some .boolean) 1 0 98 16364 (some mu_L_438) 5000 true 1421 alt) = true
  | i + 0, h => absurd h (by omega)
theorem ck_L_n_438 : (al_L_438.drop 0).isEmpty = true := by decide +kernel
theorem ck_L_c_439 : ∀ i, i < 0 → (al_L_439.drop i).head?.all (fun alt => rf_run nm_cl nm_ct en_xs 8 xx_L kc_L cu_L po_L (some .boolean) 1 0 98 16364 (some mu_L_439) 5000 true 1421 alt) = true
  | i + 0, h => absurd h (by omega)
theorem ck_L_n_439 : (al_L_439.drop 0).isEmpty = true := by decide +kernel
theorem ck_L_c_440 : ∀ i, i < 0 → (al_L_440.drop i).head?.all (fun alt => rf_run nm_cl nm_ct en_xs 8 xx_L kc_L cu_L po_L (some .boolean) 1 0 98 16364 (some mu_L_440) 5000 true 1421 alt) = true
  | i + 0, h => absurd h (by omega)
theorem ck_L_n_440 : (al_L_440.drop 0).isEmpty = true := by decide +kernel
theorem ck_L_c_441 : ∀ i, i < 0 → (al_L_441.drop i).head?.all (fun alt => rf_run nm_cl nm_ct en_xs 8 xx_L kc_L cu_L po_L (some .boolean) 1 0 98 16364 (some mu_L_441) 5000 true 1421 alt) = true
  | i + 0, h => absurd h (by omega)
theorem ck_L_n_441 : (al_L_441.drop 0).isEmpty = true := by decide +kernel
theorem ck_L_c_442 : ∀ i, i < 0 → (al_L_442.drop i).head?.all (fun alt => rf_run nm_cl nm_ct en_xs 8 xx_L kc_L cu_L po_L (some .boolean) 1 0 98 16364 (some mu_L_442) 5000 true 1421 alt) = true
  | i + 0, h => absurd h (by omega)
theorem ck_L_n_442 : (al_L_442.drop 0).isEmpty = true := by decide +kernel
theorem ck_L_c_443 : ∀ i, i < 0 → (al_L_443.drop i).head?.all (fun alt => rf_run nm_cl nm_ct en_xs 8 xx_L kc_L cu_L po_L (some .boolean) 1 0 98 16364 (some mu_L_443) 5000 true 1421 alt) = true
  | i + 0, h => absurd h (by omega)
theorem ck_L_n_443 : (al_L_443.drop 0).isEmpty = true := by decide +kernel
theorem ck_L_c_444 : ∀ i, i < 0 → (al_L_444.drop i).head?.all (fun alt => rf_run nm_cl nm_ct en_xs 8 xx_L kc_L cu_L po_L (some .boolean) 1 0 98 16364 (some mu_L_444) 5000 true 1421 alt) = true
  | i + 0, h => absurd h (by omega)
theorem ck_L_n_444 : (al_L_444.drop 0).isEmpty = true := by decide +kernel
theorem ck_L_c_445 : ∀ i, i < 0 → (al_L_445.drop i).head?.all (fun alt => rf_run nm_cl nm_ct en_xs 8 xx_L kc_L cu_L po_L (some .boolean) 1 0 98 16364 (some mu_L_445) 5000 true 1421 alt) = true
  | i + 0, h => absurd h (by omega)
theorem ck_L_n_445 : (al_L_445.drop 0).isEmpty = true := by decide +kernel
theorem ck_L_c_446 : ∀ i, i < 0 → (al_L_446.drop i).head?.all (fun alt => rf_run nm_cl nm_ct en_xs 8 xx_L kc_L cu_L po_L (some .boolean) 1 0 98 16364 (some mu_L_446) 5000 true 1421 alt) = true
  | i + 0, h => absurd h (by omega)
theorem ck_L_n_446 : (al_L_446.drop 0).isEmpty = true := by decide +kernel
theorem ck_L_c_447 : ∀ i, i < 0 → (al_L_447.drop i).head?.all (fun alt => rf_run nm_cl nm_ct en_xs 8 xx_L kc_L cu_L po_L (some .boolean) 1 0 98 16364 (some mu_L_447) 5000 true 1421 alt) = true
  | i + 0, h => absurd h (by omega)
theorem ck_L_n_447 : (al_L_447.drop 0).isEmpty = true := by decide +kernel
theorem ck_L_c_448 : ∀ i, i < 0 → (al_L_448.drop i).head?.all (fun alt => rf_run nm_cl nm_ct en_xs 8 xx_L kc_L cu_L po_L (some .boolean) 1 0 98 16364 (some mu_L_448) 5000 true 1421 alt) = true
  | i + 0, h => absurd h (by omega)
theorem ck_L_n_448 : (al_L_448.drop 0).isEmpty = true := by decide +kernel
theorem ck_L_c_449 : ∀ i, i < 0 → (al_L_449.drop i).head?.all (fun alt => rf_run nm_cl nm_ct en_xs 8 xx_L kc_L cu_L po_L (some .boolean) 1 0 98 16364 (some mu_L_449) 5000 true 1421 alt) = true
  | i + 0, h => absurd h (by omega)
theorem ck_L_n_449 : (al_L_449.drop 0).isEmpty = true := by decide +kernel
theorem ck_L_c_450 : ∀ i, i < 0 → (al_L_450.drop i).head?.all (fun alt => rf_run nm_cl nm_ct en_xs 8 xx_L kc_L cu_L po_L (some .boolean) 1 0 98 16364 (some mu_L_450) 5000 true 1421 alt) = true
  | i + 0, h => absurd h (by omega)
theorem ck_L_n_450 : (al_L_450.drop 0).isEmpty = true := by decide +kernel
theorem ck_L_c_451 : ∀ i, i < 0 → (al_L_451.drop i).head?.all (fun alt => rf_run nm_cl nm_ct en_xs 8 xx_L kc_L cu_L po_L (some .boolean) 1 0 98 16364 (some mu_L_451) 5000 true 1421 alt) = true
  | i + 0, h => absurd h (by omega)
theorem ck_L_n_451 : (al_L_451.drop 0).isEmpty = true := by decide +kernel
theorem ck_L_c_452 : ∀ i, i < 0 → (al_L_452.drop i).head?.all (fun alt => rf_run nm_cl nm_ct en_xs 8 xx_L kc_L cu_L po_L (some .boolean) 1 0 98 16364 (some mu_L_452) 5000 true 1421 alt) = true
  | i + 0, h => absurd h (by omega)
theorem ck_L_n_452 : (al_L_452.drop 0).isEmpty = true := by decide +kernel
theorem ck_L_c_453 : ∀ i, i < 0 → (al_L_453.drop i).head?.all (fun alt => rf_run nm_cl nm_ct en_xs 8 xx_L kc_L cu_L po_L (some .boolean) 1 0 98 16364 (some mu_L_453) 5000 true 1421 alt) = true
  | i + 0, h => absurd h (by omega)
theorem ck_L_n_453 : (al_L_453.drop 0).isEmpty = true := by decide +kernel
theorem ck_L_c_454 : ∀ i, i < 0 → (al_L_454.drop i).head?.all (fun alt => rf_run nm_cl nm_ct en_xs 8 xx_L kc_L cu_L po_L (some .boolean) 1 0 98 16364 (some mu_L_454) 5000 true 1421 alt) = true
  | i + 0, h => absurd h (by omega)
theorem ck_L_n_454 : (al_L_454.drop 0).isEmpty = true := by decide +kernel
theorem ck_L_c_455 : ∀ i, i < 0 → (al_L_455.drop i).head?.all (fun alt => rf_run nm_cl nm_ct en_xs 8 xx_L kc_L cu_L po_L (some .boolean) 1 0 98 16364 (some mu_L_455) 5000 true 1421 alt) = true
  | i + 0, h => absurd h (by omega)
theorem ck_L_n_455 : (al_L_455.drop 0).isEmpty = true := by decide +kernel
theorem ck_L_c_456 : ∀ i, i < 0 → (al_L_456.drop i).head?.all (fun alt => rf_run nm_cl nm_ct en_xs 8 xx_L kc_L cu_L po_L (some .boolean) 1 0 98 16364 (some mu_L_456) 5000 true 1421 alt) = true
  | i + 0, h => absurd h (by omega)
theorem ck_L_n_456 : (al_L_456.drop 0).isEmpty = true := by decide +kernel
theorem ck_L_c_457 : ∀ i, i < 0 → (al_L_457.drop i).head?.all (fun alt => rf_run nm_cl nm_ct en_xs 8 xx_L kc_L cu_L po_L (some .boolean) 1 0 98 16364 (some mu_L_457) 5000 true 1421 alt) = true
  | i + 0, h => absurd h (by omega)
theorem ck_L_n_457 : (al_L_457.drop 0).isEmpty = true := by decide +kernel
theorem ck_L_c_458 : ∀ i, i < 0 → (al_L_458.drop i).head?.all (fun alt => rf_run nm_cl nm_ct en_xs 8 xx_L kc_L cu_L po_L (some .boolean) 1 0 98 16364 (some mu_L_458) 5000 true 1421 alt) = true
  | i + 0, h => absurd h (by omega)
theorem ck_L_n_458 : (al_L_458.drop 0).isEmpty = true := by decide +kernel
theorem ck_L_b_459_0 : (al_L_459.drop 0).head?.all (fun alt => rf_run nm_cl nm_ct en_xs 8 xx_L kc_L cu_L po_L (some .boolean) 1 0 98 16364 (some mu_L_459) 5000 true 1421 alt) = true := by decide +kernel
theorem ck_L_c_459 : ∀ i, i < 1 → (al_L_459.drop i).head?.all (fun alt => rf_run nm_cl nm_ct en_xs 8 xx_L kc_L cu_L po_L (some .boolean) 1 0 98 16364 (some mu_L_459) 5000 true 1421 alt) = true
  | 0, _ => ck_L_b_459_0
  | i + 1, h => absurd h (by omega)
theorem ck_L_n_459 : (al_L_459.drop 1).isEmpty = true := by decide +kernel
theorem ck_L_c_460 : ∀ i, i < 0 → (al_L_460.drop i).head?.all (fun alt => rf_run nm_cl nm_ct en_xs 8 xx_L kc_L cu_L po_L (some .boolean) 1 0 98 16364 (some mu_L_460) 5000 true 1421 alt) = true
  | i + 0, h => absurd h (by omega)
theorem ck_L_n_460 : (al_L_460.drop 0).isEmpty = true := by decide +kernel
theorem ck_L_c_461 : ∀ i, i < 0 → (al_L_461.drop i).head?.all (fun alt => rf_run nm_cl nm_ct en_xs 8 xx_L kc_L cu_L po_L (some .boolean) 1 0 98 16364 (some mu_L_461) 5000 true 1421 alt) = true
  | i + 0, h => absurd h (by omega)
theorem ck_L_n_461 : (al_L_461.drop 0).isEmpty = true := by decide +kernel
theorem ck_L_c_462 : ∀ i, i < 0 → (al_L_462.drop i).head?.all (fun alt => rf_run nm_cl nm_ct en_xs 8 xx_L kc_L cu_L po_L (some .boolean) 1 0 98 16364 (some mu_L_462) 5000 true 1421 alt) = true
  | i + 0, h => absurd h (by omega)
theorem ck_L_n_462 : (al_L_462.drop 0).isEmpty = true := by decide +kernel
theorem ck_L_c_463 : ∀ i, i < 0 → (al_L_463.drop i).head?.all (fun alt => rf_run nm_cl nm_ct en_xs 8 xx_L kc_L cu_L po_L (some .boolean) 1 0 98 16364 (some mu_L_463) 5000 true 1421 alt) = true
  | i + 0, h => absurd h (by omega)
theorem ck_L_n_463 : (al_L_463.drop 0).isEmpty = true := by decide +kernel
theorem ck_L_c_464 : ∀ i, i < 0 → (al_L_464.drop i).head?.all (fun alt => rf_run nm_cl nm_ct en_xs 8 xx_L kc_L cu_L po_L (some .boolean) 1 0 98 16364 (some mu_L_464) 5000 true 1421 alt) = true
  | i + 0, h => absurd h (by omega)
theorem ck_L_n_464 : (al_L_464.drop 0).isEmpty = true := by decide +kernel
theorem ck_L_c_465 : ∀ i, i < 0 → (al_L_465.drop i).head?.all (fun alt => rf_run nm_cl nm_ct en_xs 8 xx_L kc_L cu_L po_L (some .boolean) 1 0 98 16364 (some mu_L_465) 5000 true 1421 alt) = true
  | i + 0, h => absurd h (by omega)
theorem ck_L_n_465 : (al_L_465.drop 0).isEmpty = true := by decide +kernel
theorem ck_L_c_466 : ∀ i, i < 0 → (al_L_466.drop i).head?.all (fun alt => rf_run nm_cl nm_ct en_xs 8 xx_L kc_L cu_L po_L (some .boolean) 1 0 98 16364 (some mu_L_466) 5000 true 1421 alt) = true
  | i + 0, h => absurd h (by omega)
theorem ck_L_n_466 : (al_L_466.drop 0).isEmpty = true := by decide +kernel
theorem ck_L_c_467 : ∀ i, i < 0 → (al_L_467.drop i).head?.all (fun alt => rf_run nm_cl nm_ct en_xs 8 xx_L kc_L cu_L po_L (some .boolean) 1 0 98 16364 (some mu_L_467) 5000 true 1421 alt) = true
  | i + 0, h => absurd h (by omega)
theorem ck_L_n_467 : (al_L_467.drop 0).isEmpty = true := by decide +kernel
theorem ck_L_c_468 : ∀ i, i < 0 → (al_L_468.drop i).head?.all (fun alt => rf_run nm_cl nm_ct en_xs 8 xx_L kc_L cu_L po_L (some .boolean) 1 0 98 16364 (some mu_L_468) 5000 true 1421 alt) = true
  | i + 0, h => absurd h (by omega)
theorem ck_L_n_468 : (al_L_468.drop 0).isEmpty = true := by decide +kernel
theorem ck_L_c_469 : ∀ i, i < 0 → (al_L_469.drop i).head?.all (fun alt => rf_run nm_cl nm_ct en_xs 8 xx_L kc_L cu_L po_L (some .boolean) 1 0 98 16364 (some mu_L_469) 5000 true 1421 alt) = true
  | i + 0, h => absurd h (by omega)
theorem ck_L_n_469 : (al_L_469.drop 0).isEmpty = true := by decide +kernel
theorem ck_L_c_470 : ∀ i, i < 0 → (al_L_470.drop i).head?.all (fun alt => rf_run nm_cl nm_ct en_xs 8 xx_L kc_L cu_L po_L (some .boolean) 1 0 98 16364 (some mu_L_470) 5000 true 1421 alt) = true
  | i + 0, h => absurd h (by omega)
theorem ck_L_n_470 : (al_L_470.drop 0).isEmpty = true := by decide +kernel
theorem ck_L_c_471 : ∀ i, i < 0 → (al_L_471.drop i).head?.all (fun alt => rf_run nm_cl nm_ct en_xs 8 xx_L kc_L cu_L po_L (some .boolean) 1 0 98 16364 (some mu_L_471) 5000 true 1421 alt) = true
  | i + 0, h => absurd h (by omega)
theorem ck_L_n_471 : (al_L_471.drop 0).isEmpty = true := by decide +kernel
theorem ck_L_b_472_0 : (al_L_472.drop 0).head?.all (fun alt => rf_run nm_cl nm_ct en_xs 8 xx_L kc_L cu_L po_L (some .boolean) 1 0 98 16364 (some mu_L_472) 5000 true 1421 alt) = true := by decide +kernel
theorem ck_L_c_472 : ∀ i, i < 1 → (al_L_472.drop i).head?.all (fun alt => rf_run nm_cl nm_ct en_xs 8 xx_L kc_L cu_L po_L (some .boolean) 1 0 98 16364 (some mu_L_472) 5000 true 1421 alt) = true
  | 0, _ => ck_L_b_472_0
  | i + 1, h => absurd h (by omega)
theorem ck_L_n_472 : (al_L_472.drop 1).isEmpty = true := by decide +kernel
