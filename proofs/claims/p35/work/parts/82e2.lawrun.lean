/-! the law: one walk of it in pieces -/
theorem fq_L_67_0 : (match rf_fro nm_cl nm_ct en_xs 8 xx_L kc_L cu_L (16 + 1) true 1213 cp_L_67 with
    | some l => (l.drop 0).head?.all (fun z => rf_run nm_cl nm_ct en_xs 8 xx_L kc_L cu_L po_L (some .boolean) 1 0 98 16364 (some mu_L_67) 4983 false z.1 z.2)
    | none => false) = true := by decide +kernel
theorem fq_L_67_1 : (match rf_fro nm_cl nm_ct en_xs 8 xx_L kc_L cu_L (16 + 1) true 1213 cp_L_67 with
    | some l => (l.drop 1).head?.all (fun z => rf_run nm_cl nm_ct en_xs 8 xx_L kc_L cu_L po_L (some .boolean) 1 0 98 16364 (some mu_L_67) 4983 false z.1 z.2)
    | none => false) = true := by decide +kernel
theorem fq_L_67_2 : (match rf_fro nm_cl nm_ct en_xs 8 xx_L kc_L cu_L (16 + 1) true 1213 cp_L_67 with
    | some l => (l.drop 2).head?.all (fun z => rf_run nm_cl nm_ct en_xs 8 xx_L kc_L cu_L po_L (some .boolean) 1 0 98 16364 (some mu_L_67) 4983 false z.1 z.2)
    | none => false) = true := by decide +kernel
theorem fq_L_67_3 : (match rf_fro nm_cl nm_ct en_xs 8 xx_L kc_L cu_L (16 + 1) true 1213 cp_L_67 with
    | some l => (l.drop 3).head?.all (fun z => rf_run nm_cl nm_ct en_xs 8 xx_L kc_L cu_L po_L (some .boolean) 1 0 98 16364 (some mu_L_67) 4983 false z.1 z.2)
    | none => false) = true := by decide +kernel
theorem fq_L_67_4 : (match rf_fro nm_cl nm_ct en_xs 8 xx_L kc_L cu_L (16 + 1) true 1213 cp_L_67 with
    | some l => (l.drop 4).head?.all (fun z => rf_run nm_cl nm_ct en_xs 8 xx_L kc_L cu_L po_L (some .boolean) 1 0 98 16364 (some mu_L_67) 4983 false z.1 z.2)
    | none => false) = true := by decide +kernel
theorem fq_L_67_5 : (match rf_fro nm_cl nm_ct en_xs 8 xx_L kc_L cu_L (16 + 1) true 1213 cp_L_67 with
    | some l => (l.drop 5).head?.all (fun z => rf_run nm_cl nm_ct en_xs 8 xx_L kc_L cu_L po_L (some .boolean) 1 0 98 16364 (some mu_L_67) 4983 false z.1 z.2)
    | none => false) = true := by decide +kernel
theorem fq_L_67_6 : (match rf_fro nm_cl nm_ct en_xs 8 xx_L kc_L cu_L (16 + 1) true 1213 cp_L_67 with
    | some l => (l.drop 6).head?.all (fun z => rf_run nm_cl nm_ct en_xs 8 xx_L kc_L cu_L po_L (some .boolean) 1 0 98 16364 (some mu_L_67) 4983 false z.1 z.2)
    | none => false) = true := by decide +kernel
theorem fq_L_67_7 : (match rf_fro nm_cl nm_ct en_xs 8 xx_L kc_L cu_L (16 + 1) true 1213 cp_L_67 with
    | some l => (l.drop 7).head?.all (fun z => rf_run nm_cl nm_ct en_xs 8 xx_L kc_L cu_L po_L (some .boolean) 1 0 98 16364 (some mu_L_67) 4983 false z.1 z.2)
    | none => false) = true := by decide +kernel
theorem fq_L_67_8 : (match rf_fro nm_cl nm_ct en_xs 8 xx_L kc_L cu_L (16 + 1) true 1213 cp_L_67 with
    | some l => (l.drop 8).head?.all (fun z => rf_run nm_cl nm_ct en_xs 8 xx_L kc_L cu_L po_L (some .boolean) 1 0 98 16364 (some mu_L_67) 4983 false z.1 z.2)
    | none => false) = true := by decide +kernel
theorem fq_L_67_9 : (match rf_fro nm_cl nm_ct en_xs 8 xx_L kc_L cu_L (16 + 1) true 1213 cp_L_67 with
    | some l => (l.drop 9).head?.all (fun z => rf_run nm_cl nm_ct en_xs 8 xx_L kc_L cu_L po_L (some .boolean) 1 0 98 16364 (some mu_L_67) 4983 false z.1 z.2)
    | none => false) = true := by decide +kernel
theorem fq_L_67_10 : (match rf_fro nm_cl nm_ct en_xs 8 xx_L kc_L cu_L (16 + 1) true 1213 cp_L_67 with
    | some l => (l.drop 10).head?.all (fun z => rf_run nm_cl nm_ct en_xs 8 xx_L kc_L cu_L po_L (some .boolean) 1 0 98 16364 (some mu_L_67) 4983 false z.1 z.2)
    | none => false) = true := by decide +kernel
theorem fq_L_67_11 : (match rf_fro nm_cl nm_ct en_xs 8 xx_L kc_L cu_L (16 + 1) true 1213 cp_L_67 with
    | some l => (l.drop 11).head?.all (fun z => rf_run nm_cl nm_ct en_xs 8 xx_L kc_L cu_L po_L (some .boolean) 1 0 98 16364 (some mu_L_67) 4983 false z.1 z.2)
    | none => false) = true := by decide +kernel
theorem fq_L_67 : ∀ i, i < 12 → (match rf_fro nm_cl nm_ct en_xs 8 xx_L kc_L cu_L (16 + 1) true 1213 cp_L_67 with
    | some l => (l.drop i).head?.all (fun z => rf_run nm_cl nm_ct en_xs 8 xx_L kc_L cu_L po_L (some .boolean) 1 0 98 16364 (some mu_L_67) 4983 false z.1 z.2)
    | none => false) = true
  | 0, _ => fq_L_67_0
  | 1, _ => fq_L_67_1
  | 2, _ => fq_L_67_2
  | 3, _ => fq_L_67_3
  | 4, _ => fq_L_67_4
  | 5, _ => fq_L_67_5
  | 6, _ => fq_L_67_6
  | 7, _ => fq_L_67_7
  | 8, _ => fq_L_67_8
  | 9, _ => fq_L_67_9
  | 10, _ => fq_L_67_10
  | 11, _ => fq_L_67_11
  | i + 12, h => absurd h (by omega)
theorem fn_L_67 : (match rf_fro nm_cl nm_ct en_xs 8 xx_L kc_L cu_L (16 + 1) true 1213 cp_L_67 with
    | some l => (l.drop 12).isEmpty
    | none => false) = true := by decide +kernel
