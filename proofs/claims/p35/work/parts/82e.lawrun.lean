/-! the law: its check -/
theorem ck_L_b_58_0 : (al_L_58.drop 0).head?.all (fun alt => rf_run nm_cl nm_ct en_xs 8 xx_L kc_L cu_L po_L (some .boolean) 1 0 98 16364 (some mu_L_58) 5000 true 1083 alt) = true := by decide +kernel
theorem ck_L_b_59_0 : (al_L_59.drop 0).head?.all (fun alt => rf_run nm_cl nm_ct en_xs 8 xx_L kc_L cu_L po_L (some .boolean) 1 0 98 16364 (some mu_L_59) 5000 true 1091 alt) = true := by decide +kernel
theorem ck_L_b_60_0 : (al_L_60.drop 0).head?.all (fun alt => rf_run nm_cl nm_ct en_xs 8 xx_L kc_L cu_L po_L (some .boolean) 1 0 98 16364 (some mu_L_60) 5000 true 1101 alt) = true := by decide +kernel
theorem ck_L_b_61_0 : (al_L_61.drop 0).head?.all (fun alt => rf_run nm_cl nm_ct en_xs 8 xx_L kc_L cu_L po_L (some .boolean) 1 0 98 16364 (some mu_L_61) 5000 true 1114 alt) = true := by decide +kernel
theorem ck_L_b_62_0 : (al_L_62.drop 0).head?.all (fun alt => rf_run nm_cl nm_ct en_xs 8 xx_L kc_L cu_L po_L (some .boolean) 1 0 98 16364 (some mu_L_62) 5000 true 1134 alt) = true := by decide +kernel
theorem ck_L_b_63_0 : (al_L_63.drop 0).head?.all (fun alt => rf_run nm_cl nm_ct en_xs 8 xx_L kc_L cu_L po_L (some .boolean) 1 0 98 16364 (some mu_L_63) 5000 true 1157 alt) = true := by decide +kernel
theorem ck_L_b_64_0 : (al_L_64.drop 0).head?.all (fun alt => rf_run nm_cl nm_ct en_xs 8 xx_L kc_L cu_L po_L (some .boolean) 1 0 98 16364 (some mu_L_64) 5000 true 1167 alt) = true := by decide +kernel
theorem ck_L_b_65_0 : (al_L_65.drop 0).head?.all (fun alt => rf_run nm_cl nm_ct en_xs 8 xx_L kc_L cu_L po_L (some .boolean) 1 0 98 16364 (some mu_L_65) 5000 true 1180 alt) = true := by decide +kernel
theorem ck_L_b_66_0 : (al_L_66.drop 0).head?.all (fun alt => rf_run nm_cl nm_ct en_xs 8 xx_L kc_L cu_L po_L (some .boolean) 1 0 98 16364 (some mu_L_66) 5000 true 1195 alt) = true := by decide +kernel
theorem fq_L_67_0 : (match rf_fro nm_cl nm_ct en_xs 8 xx_L kc_L cu_L (16 + 1) true 1213 cp_L_67 with
    | some l => (l.drop 0).head?.all (fun z => rf_run nm_cl nm_ct en_xs 8 xx_L kc_L cu_L po_L (some .boolean) 1 0 98 16364 (some mu_L_67) 4983 false z.1 z.2)
    | none => false) = true := by decide +kernel
theorem fq_L_67_1 : (match rf_fro nm_cl nm_ct en_xs 8 xx_L kc_L cu_L (16 + 1) true 1213 cp_L_67 with
    | some l => (l.drop 1).head?.all (fun z => rf_run nm_cl nm_ct en_xs 8 xx_L kc_L cu_L po_L (some .boolean) 1 0 98 16364 (some mu_L_67) 4983 false z.1 z.2)
    | none => false) = true := by decide +kernel
theorem fq_L_67_2 : (match rf_fro nm_cl nm_ct en_xs 8 xx_L kc_L cu_L (16 + 1) true 1213 cp_L_67 with
    | some l => (l.drop 2).head?.all (fun z => rf_run nm_cl nm_ct en_xs 8 xx_L kc_L cu_L po_L (some .boolean) 1 0 98 16364 (some mu_L_67) 4983 false z.1 z.2)
    | none => false) = true := by decide +kernel
theorem fq_L_67_3 : (match rf_fro nm_cl nm_ct en_xs 8 xx_L kc_L cu_L (16 + 1) true 1213 cp_L_67 with
    | some l => (l.drop 3).head?.all (fun z => rf_run nm_cl nm_ct en_xs 8 xx_L kc_L cu_L po_L (some .boolean) 1 0 98 16364 (some mu_L_67) 4983 false z.1 z.2)
    | none => false) = true := by decide +kernel
theorem fq_L_67_4 : (match rf_fro nm_cl nm_ct en_xs 8 xx_L kc_L cu_L (16 + 1) true 1213 cp_L_67 with
    | some l => (l.drop 4).head?.all (fun z => rf_run nm_cl nm_ct en_xs 8 xx_L kc_L cu_L po_L (some .boolean) 1 0 98 16364 (some mu_L_67) 4983 false z.1 z.2)
    | none => false) = true := by decide +kernel
theorem fq_L_67_5 : (match rf_fro nm_cl nm_ct en_xs 8 xx_L kc_L cu_L (16 + 1) true 1213 cp_L_67 with
    | some l => (l.drop 5).head?.all (fun z => rf_run nm_cl nm_ct en_xs 8 xx_L kc_L cu_L po_L (some .boolean) 1 0 98 16364 (some mu_L_67) 4983 false z.1 z.2)
    | none => false) = true := by decide +kernel
theorem fq_L_67_6 : (match rf_fro nm_cl nm_ct en_xs 8 xx_L kc_L cu_L (16 + 1) true 1213 cp_L_67 with
    | some l => (l.drop 6).head?.all (fun z => rf_run nm_cl nm_ct en_xs 8 xx_L kc_L cu_L po_L (some .boolean) 1 0 98 16364 (some mu_L_67) 4983 false z.1 z.2)
    | none => false) = true := by decide +kernel
theorem fq_L_67_7 : (match rf_fro nm_cl nm_ct en_xs 8 xx_L kc_L cu_L (16 + 1) true 1213 cp_L_67 with
    | some l => (l.drop 7).head?.all (fun z => rf_run nm_cl nm_ct en_xs 8 xx_L kc_L cu_L po_L (some .boolean) 1 0 98 16364 (some mu_L_67) 4983 false z.1 z.2)
    | none => false) = true := by decide +kernel
theorem fq_L_67_8 : (match rf_fro nm_cl nm_ct en_xs 8 xx_L kc_L cu_L (16 + 1) true 1213 cp_L_67 with
    | some l => (l.drop 8).head?.all (fun z => rf_run nm_cl nm_ct en_xs 8 xx_L kc_L cu_L po_L (some .boolean) 1 0 98 16364 (some mu_L_67) 4983 false z.1 z.2)
    | none => false) = true := by decide +kernel
theorem fq_L_67_9 : (match rf_fro nm_cl nm_ct en_xs 8 xx_L kc_L cu_L (16 + 1) true 1213 cp_L_67 with
    | some l => (l.drop 9).head?.all (fun z => rf_run nm_cl nm_ct en_xs 8 xx_L kc_L cu_L po_L (some .boolean) 1 0 98 16364 (some mu_L_67) 4983 false z.1 z.2)
    | none => false) = true := by decide +kernel
theorem fq_L_67_10 : (match rf_fro nm_cl nm_ct en_xs 8 xx_L kc_L cu_L (16 + 1) true 1213 cp_L_67 with
    | some l => (l.drop 10).head?.all (fun z => rf_run nm_cl nm_ct en_xs 8 xx_L kc_L cu_L po_L (some .boolean) 1 0 98 16364 (some mu_L_67) 4983 false z.1 z.2)
    | none => false) = true := by decide +kernel
theorem fq_L_67_11 : (match rf_fro nm_cl nm_ct en_xs 8 xx_L kc_L cu_L (16 + 1) true 1213 cp_L_67 with
    | some l => (l.drop 11).head?.all (fun z => rf_run nm_cl nm_ct en_xs 8 xx_L kc_L cu_L po_L (some .boolean) 1 0 98 16364 (some mu_L_67) 4983 false z.1 z.2)
    | none => false) = true := by decide +kernel
theorem fq_L_67 : ∀ i, i < 12 → (match rf_fro nm_cl nm_ct en_xs 8 xx_L kc_L cu_L (16 + 1) true 1213 cp_L_67 with
    | some l => (l.drop i).head?.all (fun z => rf_run nm_cl nm_ct en_xs 8 xx_L kc_L cu_L po_L (some .boolean) 1 0 98 16364 (some mu_L_67) 4983 false z.1 z.2)
    | none => false) = true
  | 0, _ => fq_L_67_0
  | 1, _ => fq_L_67_1
  | 2, _ => fq_L_67_2
  | 3, _ => fq_L_67_3
  | 4, _ => fq_L_67_4
  | 5, _ => fq_L_67_5
  | 6, _ => fq_L_67_6
  | 7, _ => fq_L_67_7
  | 8, _ => fq_L_67_8
  | 9, _ => fq_L_67_9
  | 10, _ => fq_L_67_10
  | 11, _ => fq_L_67_11
  | i + 12, h => absurd h (by omega)
theorem fn_L_67 : (match rf_fro nm_cl nm_ct en_xs 8 xx_L kc_L cu_L (16 + 1) true 1213 cp_L_67 with
    | some l => (l.drop 12).isEmpty
    | none => false) = true := by decide +kernel
theorem fr_L_67 : rf_run nm_cl nm_ct en_xs 8 xx_L kc_L cu_L po_L (some .boolean) 1 0 98 16364 (some mu_L_67) (4983 + 16 + 1) true 1213 cp_L_67 = true := rf_fro_p 12 fq_L_67 fn_L_67
theorem ck_L_b_67_0 : (al_L_67.drop 0).head?.all (fun alt => rf_run nm_cl nm_ct en_xs 8 xx_L kc_L cu_L po_L (some .boolean) 1 0 98 16364 (some mu_L_67) 5000 true 1213 alt) = true := by
  have e : (al_L_67.drop 0).head? = some cp_L_67 := rfl
  rw [e, Option.all_some]
  show rf_run nm_cl nm_ct en_xs 8 xx_L kc_L cu_L po_L (some .boolean) 1 0 98 16364 (some mu_L_67) 5000 true 1213 cp_L_67 = true
  exact fr_L_67
theorem ck_L_b_68_0 : (al_L_68.drop 0).head?.all (fun alt => rf_run nm_cl nm_ct en_xs 8 xx_L kc_L cu_L po_L (some .boolean) 1 0 98 16364 (some mu_L_68) 5000 true 1256 alt) = true := by decide +kernel
theorem ck_L_b_69_0 : (al_L_69.drop 0).head?.all (fun alt => rf_run nm_cl nm_ct en_xs 8 xx_L kc_L cu_L po_L (some .boolean) 1 0 98 16364 (some mu_L_69) 5000 true 1291 alt) = true := by decide +kernel
theorem ck_L_b_70_0 : (al_L_70.drop 0).head?.all (fun alt => rf_run nm_cl nm_ct en_xs 8 xx_L kc_L cu_L po_L (some .boolean) 1 0 98 16364 (some mu_L_70) 5000 true 1329 alt) = true := by decide +kernel
theorem ck_L_b_71_0 : (al_L_71.drop 0).head?.all (fun alt => rf_run nm_cl nm_ct en_xs 8 xx_L kc_L cu_L po_L (some .boolean) 1 0 98 16364 (some mu_L_71) 5000 true 1344 alt) = true := by decide +kernel
theorem ck_L_b_72_0 : (al_L_72.drop 0).head?.all (fun alt => rf_run nm_cl nm_ct en_xs 8 xx_L kc_L cu_L po_L (some .boolean) 1 0 98 16364 (some mu_L_72) 5000 true 1362 alt) = true := by decide +kernel
theorem ck_L_b_73_0 : (al_L_73.drop 0).head?.all (fun alt => rf_run nm_cl nm_ct en_xs 8 xx_L kc_L cu_L po_L (some .boolean) 1 0 98 16364 (some mu_L_73) 5000 true 1392 alt) = true := by decide +kernel
theorem ck_L_b_74_0 : (al_L_74.drop 0).head?.all (fun alt => rf_run nm_cl nm_ct en_xs 8 xx_L kc_L cu_L po_L (some .boolean) 1 0 98 16364 (some mu_L_74) 5000 true 1425 alt) = true := by decide +kernel
theorem ck_L_b_75_0 : (al_L_75.drop 0).head?.all (fun alt => rf_run nm_cl nm_ct en_xs 8 xx_L kc_L cu_L po_L (some .boolean) 1 0 98 16364 (some mu_L_75) 5000 true 1440 alt) = true := by decide +kernel
theorem ck_L_b_76_0 : (al_L_76.drop 0).head?.all (fun alt => rf_run nm_cl nm_ct en_xs 8 xx_L kc_L cu_L po_L (some .boolean) 1 0 98 16364 (some mu_L_76) 5000 true 1458 alt) = true := by decide +kernel
theorem ck_L_b_77_0 : (al_L_77.drop 0).head?.all (fun alt => rf_run nm_cl nm_ct en_xs 8 xx_L kc_L cu_L po_L (some .boolean) 1 0 98 16364 (some mu_L_77) 5000 true 1468 alt) = true := by decide +kernel
