/-! the law: that walk -/
theorem fr_L_67 : rf_run nm_cl nm_ct en_xs 8 xx_L kc_L cu_L po_L (some .boolean) 1 0 98 16364 (some mu_L_67) (4983 + 16 + 1) true 1213 cp_L_67 = true := by
  have h1 := fq_L_67
  have h2 := fn_L_67
  generalize hF : rf_fro nm_cl nm_ct en_xs 8 xx_L kc_L cu_L (16 + 1) true 1213 cp_L_67 = F at h1 h2
  cases F with
  | none => cases h2
  | some l => exact rf_fro_s (fun pc S l h hl => rf_fro_f 16 4983 pc S l h hl) true 1213 cp_L_67 l hF (rf_pcs (f := fun z => rf_run nm_cl nm_ct en_xs 8 xx_L kc_L cu_L po_L (some .boolean) 1 0 98 16364 (some mu_L_67) 4983 false z.1 z.2) 12 (fun i hi => h1 i hi) (List.isEmpty_iff.mp h2))
theorem ck_L_b_67_0 : (al_L_67.drop 0).head?.all (fun alt => rf_run nm_cl nm_ct en_xs 8 xx_L kc_L cu_L po_L (some .boolean) 1 0 98 16364 (some mu_L_67) 5000 true 1213 alt) = true := by
  have e : (al_L_67.drop 0).head? = some cp_L_67 := rfl
  rw [e, Option.all_some]
  show rf_run nm_cl nm_ct en_xs 8 xx_L kc_L cu_L po_L (some .boolean) 1 0 98 16364 (some mu_L_67) 5000 true 1213 cp_L_67 = true
  exact fr_L_67
