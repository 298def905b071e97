/-! the law: its checks, together -/
set_option maxRecDepth 100000 in
theorem ah_L_0 : rf_ALT cq_L_0 := rf_alt_inf [(341, [], [(0, 0, Int.ofNat 0), (0, 0, Int.ofNat 0), (0, 0, Int.ofNat 0)])] (by dsimp only [cq_L_0, al_L_0])
set_option maxRecDepth 100000 in
theorem ah_L_1 : rf_ALT cq_L_1 := rf_alt_self rfl
set_option maxRecDepth 100000 in
theorem ah_L_2 : rf_ALT cq_L_2 := rf_alt_self rfl
set_option maxRecDepth 100000 in
theorem ah_L_3 : rf_ALT cq_L_3 := rf_alt_self rfl
set_option maxRecDepth 100000 in
theorem ah_L_4 : rf_ALT cq_L_4 := rf_alt_self rfl
set_option maxRecDepth 100000 in
theorem ah_L_5 : rf_ALT cq_L_5 := rf_alt_self rfl
set_option maxRecDepth 100000 in
theorem ah_L_6 : rf_ALT cq_L_6 := rf_alt_self rfl
set_option maxRecDepth 100000 in
theorem ah_L_7 : rf_ALT cq_L_7 := rf_alt_inf [] (by dsimp only [cq_L_7, al_L_7])
set_option maxRecDepth 100000 in
theorem ah_L_8 : rf_ALT cq_L_8 := rf_alt_inf [] (by dsimp only [cq_L_8, al_L_8])
set_option maxRecDepth 100000 in
theorem ah_L_9 : rf_ALT cq_L_9 := rf_alt_inf [] (by dsimp only [cq_L_9, al_L_9])
set_option maxRecDepth 100000 in
theorem ah_L_10 : rf_ALT cq_L_10 := rf_alt_inf [(100, [32], [(0, 15, Int.ofNat 0), (0, 88, Int.ofNat 0), (0, 86, Int.ofNat 0)]), (100, [70], [(0, 15, Int.ofNat 0), (0, 89, Int.ofNat 0), (0, 87, Int.ofNat 0)]), (343, [], [(0, 86, Int.ofNat 0), (0, 87, Int.ofNat 0), (0, 15, Int.ofNat 0), (0, 88, Int.ofNat 0), (0, 89, Int.ofNat 0), (0, 90, Int.ofNat 0), (0, 91, Int.ofNat 0)])] (by dsimp only [cq_L_10, al_L_10])
set_option maxRecDepth 100000 in
theorem ah_L_11 : rf_ALT cq_L_11 := rf_alt_self rfl
set_option maxRecDepth 100000 in
theorem ah_L_12 : rf_ALT cq_L_12 := rf_alt_inf [(347, [], [(0, 86, Int.ofNat 0), (0, 87, Int.ofNat 0), (0, 15, Int.ofNat 0), (0, 91, Int.ofNat 0), (0, 93, Int.ofNat 0), (0, 89, Int.ofNat 0), (0, 92, Int.ofNat 0)]), (341, [], [(0, 86, Int.ofNat 0), (0, 87, Int.ofNat 0), (0, 0, Int.ofNat 0)])] (by dsimp only [cq_L_12, al_L_12])
set_option maxRecDepth 100000 in
theorem ah_L_13 : rf_ALT cq_L_13 := rf_alt_inf [(344, [], [(0, 86, Int.ofNat 0), (0, 87, Int.ofNat 0), (0, 15, Int.ofNat 0), (0, 92, Int.ofNat 0)])] (by dsimp only [cq_L_13, al_L_13])
set_option maxRecDepth 100000 in
theorem ah_L_14 : rf_ALT cq_L_14 := rf_alt_inf [(345, [], [(0, 86, Int.ofNat 0), (0, 87, Int.ofNat 0), (0, 15, Int.ofNat 0), (0, 91, Int.ofNat 0)])] (by dsimp only [cq_L_14, al_L_14])
set_option maxRecDepth 100000 in
theorem ah_L_15 : rf_ALT cq_L_15 := rf_alt_inf [(341, [], [(0, 86, Int.ofNat 0), (0, 87, Int.ofNat 0), (0, 0, Int.ofNat 0)])] (by dsimp only [cq_L_15, al_L_15])
set_option maxRecDepth 100000 in
theorem ah_L_16 : rf_ALT cq_L_16 := rf_alt_self rfl
set_option maxRecDepth 100000 in
theorem ah_L_17 : rf_ALT cq_L_17 := rf_alt_self rfl
set_option maxRecDepth 100000 in
theorem ah_L_18 : rf_ALT cq_L_18 := rf_alt_self rfl
set_option maxRecDepth 100000 in
theorem ah_L_19 : rf_ALT cq_L_19 := rf_alt_self rfl
set_option maxRecDepth 100000 in
theorem ah_L_20 : rf_ALT cq_L_20 := rf_alt_self rfl
set_option maxRecDepth 100000 in
theorem ah_L_21 : rf_ALT cq_L_21 := rf_alt_self rfl
set_option maxRecDepth 100000 in
theorem ah_L_22 : rf_ALT cq_L_22 := rf_alt_self rfl
set_option maxRecDepth 100000 in
theorem ah_L_23 : rf_ALT cq_L_23 := rf_alt_self rfl
set_option maxRecDepth 100000 in
theorem ah_L_24 : rf_ALT cq_L_24 := rf_alt_self rfl
set_option maxRecDepth 100000 in
theorem ah_L_25 : rf_ALT cq_L_25 := rf_alt_self rfl
set_option maxRecDepth 100000 in
theorem ah_L_26 : rf_ALT cq_L_26 := rf_alt_self rfl
set_option maxRecDepth 100000 in
theorem ah_L_27 : rf_ALT cq_L_27 := rf_alt_self rfl
set_option maxRecDepth 100000 in
theorem ah_L_28 : rf_ALT cq_L_28 := rf_alt_self rfl
set_option maxRecDepth 100000 in
theorem ah_L_29 : rf_ALT cq_L_29 := rf_alt_self rfl
set_option maxRecDepth 100000 in
theorem ah_L_30 : rf_ALT cq_L_30 := rf_alt_self rfl
set_option maxRecDepth 100000 in
theorem ah_L_31 : rf_ALT cq_L_31 := rf_alt_self rfl
set_option maxRecDepth 100000 in
theorem ah_L_32 : rf_ALT cq_L_32 := rf_alt_self rfl
set_option maxRecDepth 100000 in
theorem ah_L_33 : rf_ALT cq_L_33 := rf_alt_self rfl
set_option maxRecDepth 100000 in
theorem ah_L_34 : rf_ALT cq_L_34 := rf_alt_self rfl
set_option maxRecDepth 100000 in
theorem ah_L_35 : rf_ALT cq_L_35 := rf_alt_self rfl
set_option maxRecDepth 100000 in
theorem ah_L_36 : rf_ALT cq_L_36 := rf_alt_self rfl
set_option maxRecDepth 100000 in
theorem ah_L_37 : rf_ALT cq_L_37 := rf_alt_self rfl
set_option maxRecDepth 100000 in
theorem ah_L_38 : rf_ALT cq_L_38 := rf_alt_self rfl
set_option maxRecDepth 100000 in
theorem ah_L_39 : rf_ALT cq_L_39 := rf_alt_self rfl
set_option maxRecDepth 100000 in
theorem ah_L_40 : rf_ALT cq_L_40 := rf_alt_self rfl
set_option maxRecDepth 100000 in
theorem ah_L_41 : rf_ALT cq_L_41 := rf_alt_self rfl
set_option maxRecDepth 100000 in
theorem ah_L_42 : rf_ALT cq_L_42 := rf_alt_self rfl
set_option maxRecDepth 100000 in
theorem ah_L_43 : rf_ALT cq_L_43 := rf_alt_self rfl
set_option maxRecDepth 100000 in
theorem ah_L_44 : rf_ALT cq_L_44 := rf_alt_self rfl
set_option maxRecDepth 100000 in
theorem ah_L_45 : rf_ALT cq_L_45 := rf_alt_self rfl
set_option maxRecDepth 100000 in
theorem ah_L_46 : rf_ALT cq_L_46 := rf_alt_self rfl
set_option maxRecDepth 100000 in
theorem ah_L_47 : rf_ALT cq_L_47 := rf_alt_self rfl
set_option maxRecDepth 100000 in
theorem ah_L_48 : rf_ALT cq_L_48 := rf_alt_self rfl
set_option maxRecDepth 100000 in
theorem ah_L : ∀ cu ∈ cu_L, rf_ALT cu := (List.forall_mem_cons.mpr ⟨ah_L_0, (List.forall_mem_cons.mpr ⟨ah_L_1, (List.forall_mem_cons.mpr ⟨ah_L_2, (List.forall_mem_cons.mpr ⟨ah_L_3, (List.forall_mem_cons.mpr ⟨ah_L_4, (List.forall_mem_cons.mpr ⟨ah_L_5, (List.forall_mem_cons.mpr ⟨ah_L_6, (List.forall_mem_cons.mpr ⟨ah_L_7, (List.forall_mem_cons.mpr ⟨ah_L_8, (List.forall_mem_cons.mpr ⟨ah_L_9, (List.forall_mem_cons.mpr ⟨ah_L_10, (List.forall_mem_cons.mpr ⟨ah_L_11, (List.forall_mem_cons.mpr ⟨ah_L_12, (List.forall_mem_cons.mpr ⟨ah_L_13, (List.forall_mem_cons.mpr ⟨ah_L_14, (List.forall_mem_cons.mpr ⟨ah_L_15, (List.forall_mem_cons.mpr ⟨ah_L_16, (List.forall_mem_cons.mpr ⟨ah_L_17, (List.forall_mem_cons.mpr ⟨ah_L_18, (List.forall_mem_cons.mpr ⟨ah_L_19, (List.forall_mem_cons.mpr ⟨ah_L_20, (List.forall_mem_cons.mpr ⟨ah_L_21, (List.forall_mem_cons.mpr ⟨ah_L_22, (List.forall_mem_cons.mpr ⟨ah_L_23, (List.forall_mem_cons.mpr ⟨ah_L_24, (List.forall_mem_cons.mpr ⟨ah_L_25, (List.forall_mem_cons.mpr ⟨ah_L_26, (List.forall_mem_cons.mpr ⟨ah_L_27, (List.forall_mem_cons.mpr ⟨ah_L_28, (List.forall_mem_cons.mpr ⟨ah_L_29, (List.forall_mem_cons.mpr ⟨ah_L_30, (List.forall_mem_cons.mpr ⟨ah_L_31, (List.forall_mem_cons.mpr ⟨ah_L_32, (List.forall_mem_cons.mpr ⟨ah_L_33, (List.forall_mem_cons.mpr ⟨ah_L_34, (List.forall_mem_cons.mpr ⟨ah_L_35, (List.forall_mem_cons.mpr ⟨ah_L_36, (List.forall_mem_cons.mpr ⟨ah_L_37, (List.forall_mem_cons.mpr ⟨ah_L_38, (List.forall_mem_cons.mpr ⟨ah_L_39, (List.forall_mem_cons.mpr ⟨ah_L_40, (List.forall_mem_cons.mpr ⟨ah_L_41, (List.forall_mem_cons.mpr ⟨ah_L_42, (List.forall_mem_cons.mpr ⟨ah_L_43, (List.forall_mem_cons.mpr ⟨ah_L_44, (List.forall_mem_cons.mpr ⟨ah_L_45, (List.forall_mem_cons.mpr ⟨ah_L_46, (List.forall_mem_cons.mpr ⟨ah_L_47, (List.forall_mem_cons.mpr ⟨ah_L_48, (fun _ h => absurd h List.not_mem_nil)⟩)⟩)⟩)⟩)⟩)⟩)⟩)⟩)⟩)⟩)⟩)⟩)⟩)⟩)⟩)⟩)⟩)⟩)⟩)⟩)⟩)⟩)⟩)⟩)⟩)⟩)⟩)⟩)⟩)⟩)⟩)⟩)⟩)⟩)⟩)⟩)⟩)⟩)⟩)⟩)⟩)⟩)⟩)⟩)⟩)⟩)⟩)⟩)⟩)
theorem ck_L_d_0 : ∀ alt ∈ cq_L_0.2.2.2, rf_run nm_cl nm_ct en_xs 8 xx_L kc_L cu_L po_L (some .boolean) 1 0 98 16364 (some cq_L_0.2.2.1) 5000 true cq_L_0.1 alt = true := by
  have e1 : cq_L_0.2.2.2 = al_L_0 := by dsimp only [cq_L_0]
  have e2 : cq_L_0.2.2.1 = mu_L_0 := by dsimp only [cq_L_0]
  have e3 : cq_L_0.1 = 16 := by dsimp only [cq_L_0]
  rw [e1, e2, e3]
  exact rf_pcs (l := al_L_0) 1 ck_L_c_0 (List.isEmpty_iff.mp ck_L_n_0)
theorem ck_L_d_1 : ∀ alt ∈ cq_L_1.2.2.2, rf_run nm_cl nm_ct en_xs 8 xx_L kc_L cu_L po_L (some .boolean) 1 0 98 16364 (some cq_L_1.2.2.1) 5000 true cq_L_1.1 alt = true := by
  have e1 : cq_L_1.2.2.2 = al_L_1 := by dsimp only [cq_L_1]
  have e2 : cq_L_1.2.2.1 = mu_L_1 := by dsimp only [cq_L_1]
  have e3 : cq_L_1.1 = 18 := by dsimp only [cq_L_1]
  rw [e1, e2, e3]
  exact rf_pcs (l := al_L_1) 1 ck_L_c_1 (List.isEmpty_iff.mp ck_L_n_1)
theorem ck_L_d_2 : ∀ alt ∈ cq_L_2.2.2.2, rf_run nm_cl nm_ct en_xs 8 xx_L kc_L cu_L po_L (some .boolean) 1 0 98 16364 (some cq_L_2.2.2.1) 5000 true cq_L_2.1 alt = true := by
  have e1 : cq_L_2.2.2.2 = al_L_2 := by dsimp only [cq_L_2]
  have e2 : cq_L_2.2.2.1 = mu_L_2 := by dsimp only [cq_L_2]
  have e3 : cq_L_2.1 = 204 := by dsimp only [cq_L_2]
  rw [e1, e2, e3]
  exact rf_pcs (l := al_L_2) 1 ck_L_c_2 (List.isEmpty_iff.mp ck_L_n_2)
theorem ck_L_d_3 : ∀ alt ∈ cq_L_3.2.2.2, rf_run nm_cl nm_ct en_xs 8 xx_L kc_L cu_L po_L (some .boolean) 1 0 98 16364 (some cq_L_3.2.2.1) 5000 true cq_L_3.1 alt = true := by
  have e1 : cq_L_3.2.2.2 = al_L_3 := by dsimp only [cq_L_3]
  have e2 : cq_L_3.2.2.1 = mu_L_3 := by dsimp only [cq_L_3]
  have e3 : cq_L_3.1 = 237 := by dsimp only [cq_L_3]
  rw [e1, e2, e3]
  exact rf_pcs (l := al_L_3) 1 ck_L_c_3 (List.isEmpty_iff.mp ck_L_n_3)
theorem ck_L_d_4 : ∀ alt ∈ cq_L_4.2.2.2, rf_run nm_cl nm_ct en_xs 8 xx_L kc_L cu_L po_L (some .boolean) 1 0 98 16364 (some cq_L_4.2.2.1) 5000 true cq_L_4.1 alt = true := by
  have e1 : cq_L_4.2.2.2 = al_L_4 := by dsimp only [cq_L_4]
  have e2 : cq_L_4.2.2.1 = mu_L_4 := by dsimp only [cq_L_4]
  have e3 : cq_L_4.1 = 280 := by dsimp only [cq_L_4]
  rw [e1, e2, e3]
  exact rf_pcs (l := al_L_4) 1 ck_L_c_4 (List.isEmpty_iff.mp ck_L_n_4)
theorem ck_L_d_5 : ∀ alt ∈ cq_L_5.2.2.2, rf_run nm_cl nm_ct en_xs 8 xx_L kc_L cu_L po_L (some .boolean) 1 0 98 16364 (some cq_L_5.2.2.1) 5000 true cq_L_5.1 alt = true := by
  have e1 : cq_L_5.2.2.2 = al_L_5 := by dsimp only [cq_L_5]
  have e2 : cq_L_5.2.2.1 = mu_L_5 := by dsimp only [cq_L_5]
  have e3 : cq_L_5.1 = 323 := by dsimp only [cq_L_5]
  rw [e1, e2, e3]
  exact rf_pcs (l := al_L_5) 1 ck_L_c_5 (List.isEmpty_iff.mp ck_L_n_5)
theorem ck_L_d_6 : ∀ alt ∈ cq_L_6.2.2.2, rf_run nm_cl nm_ct en_xs 8 xx_L kc_L cu_L po_L (some .boolean) 1 0 98 16364 (some cq_L_6.2.2.1) 5000 true cq_L_6.1 alt = true := by
  have e1 : cq_L_6.2.2.2 = al_L_6 := by dsimp only [cq_L_6]
  have e2 : cq_L_6.2.2.1 = mu_L_6 := by dsimp only [cq_L_6]
  have e3 : cq_L_6.1 = 356 := by dsimp only [cq_L_6]
  rw [e1, e2, e3]
  exact rf_pcs (l := al_L_6) 1 ck_L_c_6 (List.isEmpty_iff.mp ck_L_n_6)
theorem ck_L_d_7 : ∀ alt ∈ cq_L_7.2.2.2, rf_run nm_cl nm_ct en_xs 8 xx_L kc_L cu_L po_L (some .boolean) 1 0 98 16364 (some cq_L_7.2.2.1) 5000 true cq_L_7.1 alt = true := by
  have e1 : cq_L_7.2.2.2 = al_L_7 := by dsimp only [cq_L_7]
  have e2 : cq_L_7.2.2.1 = mu_L_7 := by dsimp only [cq_L_7]
  have e3 : cq_L_7.1 = 375 := by dsimp only [cq_L_7]
  rw [e1, e2, e3]
  exact rf_pcs (l := al_L_7) 1 ck_L_c_7 (List.isEmpty_iff.mp ck_L_n_7)
theorem ck_L_d_8 : ∀ alt ∈ cq_L_8.2.2.2, rf_run nm_cl nm_ct en_xs 8 xx_L kc_L cu_L po_L (some .boolean) 1 0 98 16364 (some cq_L_8.2.2.1) 5000 true cq_L_8.1 alt = true := by
  have e1 : cq_L_8.2.2.2 = al_L_8 := by dsimp only [cq_L_8]
  have e2 : cq_L_8.2.2.1 = mu_L_8 := by dsimp only [cq_L_8]
  have e3 : cq_L_8.1 = 375 := by dsimp only [cq_L_8]
  rw [e1, e2, e3]
  exact rf_pcs (l := al_L_8) 1 ck_L_c_8 (List.isEmpty_iff.mp ck_L_n_8)
theorem ck_L_d_9 : ∀ alt ∈ cq_L_9.2.2.2, rf_run nm_cl nm_ct en_xs 8 xx_L kc_L cu_L po_L (some .boolean) 1 0 98 16364 (some cq_L_9.2.2.1) 5000 true cq_L_9.1 alt = true := by
  have e1 : cq_L_9.2.2.2 = al_L_9 := by dsimp only [cq_L_9]
  have e2 : cq_L_9.2.2.1 = mu_L_9 := by dsimp only [cq_L_9]
  have e3 : cq_L_9.1 = 375 := by dsimp only [cq_L_9]
  rw [e1, e2, e3]
  exact rf_pcs (l := al_L_9) 1 ck_L_c_9 (List.isEmpty_iff.mp ck_L_n_9)
theorem ck_L_d_10 : ∀ alt ∈ cq_L_10.2.2.2, rf_run nm_cl nm_ct en_xs 8 xx_L kc_L cu_L po_L (some .boolean) 1 0 98 16364 (some cq_L_10.2.2.1) 5000 true cq_L_10.1 alt = true := by
  have e1 : cq_L_10.2.2.2 = al_L_10 := by dsimp only [cq_L_10]
  have e2 : cq_L_10.2.2.1 = mu_L_10 := by dsimp only [cq_L_10]
  have e3 : cq_L_10.1 = 375 := by dsimp only [cq_L_10]
  rw [e1, e2, e3]
  exact rf_pcs (l := al_L_10) 1 ck_L_c_10 (List.isEmpty_iff.mp ck_L_n_10)
theorem ck_L_d_11 : ∀ alt ∈ cq_L_11.2.2.2, rf_run nm_cl nm_ct en_xs 8 xx_L kc_L cu_L po_L (some .boolean) 1 0 98 16364 (some cq_L_11.2.2.1) 5000 true cq_L_11.1 alt = true := by
  have e1 : cq_L_11.2.2.2 = al_L_11 := by dsimp only [cq_L_11]
  have e2 : cq_L_11.2.2.1 = mu_L_11 := by dsimp only [cq_L_11]
  have e3 : cq_L_11.1 = 379 := by dsimp only [cq_L_11]
  rw [e1, e2, e3]
  exact rf_pcs (l := al_L_11) 1 ck_L_c_11 (List.isEmpty_iff.mp ck_L_n_11)
theorem ck_L_d_12 : ∀ alt ∈ cq_L_12.2.2.2, rf_run nm_cl nm_ct en_xs 8 xx_L kc_L cu_L po_L (some .boolean) 1 0 98 16364 (some cq_L_12.2.2.1) 5000 true cq_L_12.1 alt = true := by
  have e1 : cq_L_12.2.2.2 = al_L_12 := by dsimp only [cq_L_12]
  have e2 : cq_L_12.2.2.1 = mu_L_12 := by dsimp only [cq_L_12]
  have e3 : cq_L_12.1 = 387 := by dsimp only [cq_L_12]
  rw [e1, e2, e3]
  exact rf_pcs (l := al_L_12) 1 ck_L_c_12 (List.isEmpty_iff.mp ck_L_n_12)
theorem ck_L_d_13 : ∀ alt ∈ cq_L_13.2.2.2, rf_run nm_cl nm_ct en_xs 8 xx_L kc_L cu_L po_L (some .boolean) 1 0 98 16364 (some cq_L_13.2.2.1) 5000 true cq_L_13.1 alt = true := by
  have e1 : cq_L_13.2.2.2 = al_L_13 := by dsimp only [cq_L_13]
  have e2 : cq_L_13.2.2.1 = mu_L_13 := by dsimp only [cq_L_13]
  have e3 : cq_L_13.1 = 387 := by dsimp only [cq_L_13]
  rw [e1, e2, e3]
  exact rf_pcs (l := al_L_13) 0 ck_L_c_13 (List.isEmpty_iff.mp ck_L_n_13)
theorem ck_L_d_14 : ∀ alt ∈ cq_L_14.2.2.2, rf_run nm_cl nm_ct en_xs 8 xx_L kc_L cu_L po_L (some .boolean) 1 0 98 16364 (some cq_L_14.2.2.1) 5000 true cq_L_14.1 alt = true := by
  have e1 : cq_L_14.2.2.2 = al_L_14 := by dsimp only [cq_L_14]
  have e2 : cq_L_14.2.2.1 = mu_L_14 := by dsimp only [cq_L_14]
  have e3 : cq_L_14.1 = 387 := by dsimp only [cq_L_14]
  rw [e1, e2, e3]
  exact rf_pcs (l := al_L_14) 0 ck_L_c_14 (List.isEmpty_iff.mp ck_L_n_14)
theorem ck_L_d_15 : ∀ alt ∈ cq_L_15.2.2.2, rf_run nm_cl nm_ct en_xs 8 xx_L kc_L cu_L po_L (some .boolean) 1 0 98 16364 (some cq_L_15.2.2.1) 5000 true cq_L_15.1 alt = true := by
  have e1 : cq_L_15.2.2.2 = al_L_15 := by dsimp only [cq_L_15]
  have e2 : cq_L_15.2.2.1 = mu_L_15 := by dsimp only [cq_L_15]
  have e3 : cq_L_15.1 = 387 := by dsimp only [cq_L_15]
  rw [e1, e2, e3]
  exact rf_pcs (l := al_L_15) 1 ck_L_c_15 (List.isEmpty_iff.mp ck_L_n_15)
theorem ck_L_d_16 : ∀ alt ∈ cq_L_16.2.2.2, rf_run nm_cl nm_ct en_xs 8 xx_L kc_L cu_L po_L (some .boolean) 1 0 98 16364 (some cq_L_16.2.2.1) 5000 true cq_L_16.1 alt = true := by
  have e1 : cq_L_16.2.2.2 = al_L_16 := by dsimp only [cq_L_16]
  have e2 : cq_L_16.2.2.1 = mu_L_16 := by dsimp only [cq_L_16]
  have e3 : cq_L_16.1 = 392 := by dsimp only [cq_L_16]
  rw [e1, e2, e3]
  exact rf_pcs (l := al_L_16) 1 ck_L_c_16 (List.isEmpty_iff.mp ck_L_n_16)
theorem ck_L_d_17 : ∀ alt ∈ cq_L_17.2.2.2, rf_run nm_cl nm_ct en_xs 8 xx_L kc_L cu_L po_L (some .boolean) 1 0 98 16364 (some cq_L_17.2.2.1) 5000 true cq_L_17.1 alt = true := by
  have e1 : cq_L_17.2.2.2 = al_L_17 := by dsimp only [cq_L_17]
  have e2 : cq_L_17.2.2.1 = mu_L_17 := by dsimp only [cq_L_17]
  have e3 : cq_L_17.1 = 435 := by dsimp only [cq_L_17]
  rw [e1, e2, e3]
  exact rf_pcs (l := al_L_17) 1 ck_L_c_17 (List.isEmpty_iff.mp ck_L_n_17)
theorem ck_L_d_18 : ∀ alt ∈ cq_L_18.2.2.2, rf_run nm_cl nm_ct en_xs 8 xx_L kc_L cu_L po_L (some .boolean) 1 0 98 16364 (some cq_L_18.2.2.1) 5000 true cq_L_18.1 alt = true := by
  have e1 : cq_L_18.2.2.2 = al_L_18 := by dsimp only [cq_L_18]
  have e2 : cq_L_18.2.2.1 = mu_L_18 := by dsimp only [cq_L_18]
  have e3 : cq_L_18.1 = 468 := by dsimp only [cq_L_18]
  rw [e1, e2, e3]
  exact rf_pcs (l := al_L_18) 1 ck_L_c_18 (List.isEmpty_iff.mp ck_L_n_18)
theorem ck_L_d_19 : ∀ alt ∈ cq_L_19.2.2.2, rf_run nm_cl nm_ct en_xs 8 xx_L kc_L cu_L po_L (some .boolean) 1 0 98 16364 (some cq_L_19.2.2.1) 5000 true cq_L_19.1 alt = true := by
  have e1 : cq_L_19.2.2.2 = al_L_19 := by dsimp only [cq_L_19]
  have e2 : cq_L_19.2.2.1 = mu_L_19 := by dsimp only [cq_L_19]
  have e3 : cq_L_19.1 = 511 := by dsimp only [cq_L_19]
  rw [e1, e2, e3]
  exact rf_pcs (l := al_L_19) 1 ck_L_c_19 (List.isEmpty_iff.mp ck_L_n_19)
theorem ck_L_d_20 : ∀ alt ∈ cq_L_20.2.2.2, rf_run nm_cl nm_ct en_xs 8 xx_L kc_L cu_L po_L (some .boolean) 1 0 98 16364 (some cq_L_20.2.2.1) 5000 true cq_L_20.1 alt = true := by
  have e1 : cq_L_20.2.2.2 = al_L_20 := by dsimp only [cq_L_20]
  have e2 : cq_L_20.2.2.1 = mu_L_20 := by dsimp only [cq_L_20]
  have e3 : cq_L_20.1 = 534 := by dsimp only [cq_L_20]
  rw [e1, e2, e3]
  exact rf_pcs (l := al_L_20) 1 ck_L_c_20 (List.isEmpty_iff.mp ck_L_n_20)
theorem ck_L_d_21 : ∀ alt ∈ cq_L_21.2.2.2, rf_run nm_cl nm_ct en_xs 8 xx_L kc_L cu_L po_L (some .boolean) 1 0 98 16364 (some cq_L_21.2.2.1) 5000 true cq_L_21.1 alt = true := by
  have e1 : cq_L_21.2.2.2 = al_L_21 := by dsimp only [cq_L_21]
  have e2 : cq_L_21.2.2.1 = mu_L_21 := by dsimp only [cq_L_21]
  have e3 : cq_L_21.1 = 567 := by dsimp only [cq_L_21]
  rw [e1, e2, e3]
  exact rf_pcs (l := al_L_21) 1 ck_L_c_21 (List.isEmpty_iff.mp ck_L_n_21)
theorem ck_L_d_22 : ∀ alt ∈ cq_L_22.2.2.2, rf_run nm_cl nm_ct en_xs 8 xx_L kc_L cu_L po_L (some .boolean) 1 0 98 16364 (some cq_L_22.2.2.1) 5000 true cq_L_22.1 alt = true := by
  have e1 : cq_L_22.2.2.2 = al_L_22 := by dsimp only [cq_L_22]
  have e2 : cq_L_22.2.2.1 = mu_L_22 := by dsimp only [cq_L_22]
  have e3 : cq_L_22.1 = 610 := by dsimp only [cq_L_22]
  rw [e1, e2, e3]
  exact rf_pcs (l := al_L_22) 1 ck_L_c_22 (List.isEmpty_iff.mp ck_L_n_22)
theorem ck_L_d_23 : ∀ alt ∈ cq_L_23.2.2.2, rf_run nm_cl nm_ct en_xs 8 xx_L kc_L cu_L po_L (some .boolean) 1 0 98 16364 (some cq_L_23.2.2.1) 5000 true cq_L_23.1 alt = true := by
  have e1 : cq_L_23.2.2.2 = al_L_23 := by dsimp only [cq_L_23]
  have e2 : cq_L_23.2.2.1 = mu_L_23 := by dsimp only [cq_L_23]
  have e3 : cq_L_23.1 = 643 := by dsimp only [cq_L_23]
  rw [e1, e2, e3]
  exact rf_pcs (l := al_L_23) 1 ck_L_c_23 (List.isEmpty_iff.mp ck_L_n_23)
theorem ck_L_d_24 : ∀ alt ∈ cq_L_24.2.2.2, rf_run nm_cl nm_ct en_xs 8 xx_L kc_L cu_L po_L (some .boolean) 1 0 98 16364 (some cq_L_24.2.2.1) 5000 true cq_L_24.1 alt = true := by
  have e1 : cq_L_24.2.2.2 = al_L_24 := by dsimp only [cq_L_24]
  have e2 : cq_L_24.2.2.1 = mu_L_24 := by dsimp only [cq_L_24]
  have e3 : cq_L_24.1 = 676 := by dsimp only [cq_L_24]
  rw [e1, e2, e3]
  exact rf_pcs (l := al_L_24) 1 ck_L_c_24 (List.isEmpty_iff.mp ck_L_n_24)
theorem ck_L_d_25 : ∀ alt ∈ cq_L_25.2.2.2, rf_run nm_cl nm_ct en_xs 8 xx_L kc_L cu_L po_L (some .boolean) 1 0 98 16364 (some cq_L_25.2.2.1) 5000 true cq_L_25.1 alt = true := by
  have e1 : cq_L_25.2.2.2 = al_L_25 := by dsimp only [cq_L_25]
  have e2 : cq_L_25.2.2.1 = mu_L_25 := by dsimp only [cq_L_25]
  have e3 : cq_L_25.1 = 709 := by dsimp only [cq_L_25]
  rw [e1, e2, e3]
  exact rf_pcs (l := al_L_25) 1 ck_L_c_25 (List.isEmpty_iff.mp ck_L_n_25)
theorem ck_L_d_26 : ∀ alt ∈ cq_L_26.2.2.2, rf_run nm_cl nm_ct en_xs 8 xx_L kc_L cu_L po_L (some .boolean) 1 0 98 16364 (some cq_L_26.2.2.1) 5000 true cq_L_26.1 alt = true := by
  have e1 : cq_L_26.2.2.2 = al_L_26 := by dsimp only [cq_L_26]
  have e2 : cq_L_26.2.2.1 = mu_L_26 := by dsimp only [cq_L_26]
  have e3 : cq_L_26.1 = 742 := by dsimp only [cq_L_26]
  rw [e1, e2, e3]
  exact rf_pcs (l := al_L_26) 1 ck_L_c_26 (List.isEmpty_iff.mp ck_L_n_26)
theorem ck_L_d_27 : ∀ alt ∈ cq_L_27.2.2.2, rf_run nm_cl nm_ct en_xs 8 xx_L kc_L cu_L po_L (some .boolean) 1 0 98 16364 (some cq_L_27.2.2.1) 5000 true cq_L_27.1 alt = true := by
  have e1 : cq_L_27.2.2.2 = al_L_27 := by dsimp only [cq_L_27]
  have e2 : cq_L_27.2.2.1 = mu_L_27 := by dsimp only [cq_L_27]
  have e3 : cq_L_27.1 = 785 := by dsimp only [cq_L_27]
  rw [e1, e2, e3]
  exact rf_pcs (l := al_L_27) 1 ck_L_c_27 (List.isEmpty_iff.mp ck_L_n_27)
theorem ck_L_d_28 : ∀ alt ∈ cq_L_28.2.2.2, rf_run nm_cl nm_ct en_xs 8 xx_L kc_L cu_L po_L (some .boolean) 1 0 98 16364 (some cq_L_28.2.2.1) 5000 true cq_L_28.1 alt = true := by
  have e1 : cq_L_28.2.2.2 = al_L_28 := by dsimp only [cq_L_28]
  have e2 : cq_L_28.2.2.1 = mu_L_28 := by dsimp only [cq_L_28]
  have e3 : cq_L_28.1 = 818 := by dsimp only [cq_L_28]
  rw [e1, e2, e3]
  exact rf_pcs (l := al_L_28) 1 ck_L_c_28 (List.isEmpty_iff.mp ck_L_n_28)
theorem ck_L_d_29 : ∀ alt ∈ cq_L_29.2.2.2, rf_run nm_cl nm_ct en_xs 8 xx_L kc_L cu_L po_L (some .boolean) 1 0 98 16364 (some cq_L_29.2.2.1) 5000 true cq_L_29.1 alt = true := by
  have e1 : cq_L_29.2.2.2 = al_L_29 := by dsimp only [cq_L_29]
  have e2 : cq_L_29.2.2.1 = mu_L_29 := by dsimp only [cq_L_29]
  have e3 : cq_L_29.1 = 851 := by dsimp only [cq_L_29]
  rw [e1, e2, e3]
  exact rf_pcs (l := al_L_29) 1 ck_L_c_29 (List.isEmpty_iff.mp ck_L_n_29)
theorem ck_L_d_30 : ∀ alt ∈ cq_L_30.2.2.2, rf_run nm_cl nm_ct en_xs 8 xx_L kc_L cu_L po_L (some .boolean) 1 0 98 16364 (some cq_L_30.2.2.1) 5000 true cq_L_30.1 alt = true := by
  have e1 : cq_L_30.2.2.2 = al_L_30 := by dsimp only [cq_L_30]
  have e2 : cq_L_30.2.2.1 = mu_L_30 := by dsimp only [cq_L_30]
  have e3 : cq_L_30.1 = 894 := by dsimp only [cq_L_30]
  rw [e1, e2, e3]
  exact rf_pcs (l := al_L_30) 1 ck_L_c_30 (List.isEmpty_iff.mp ck_L_n_30)
theorem ck_L_d_31 : ∀ alt ∈ cq_L_31.2.2.2, rf_run nm_cl nm_ct en_xs 8 xx_L kc_L cu_L po_L (some .boolean) 1 0 98 16364 (some cq_L_31.2.2.1) 5000 true cq_L_31.1 alt = true := by
  have e1 : cq_L_31.2.2.2 = al_L_31 := by dsimp only [cq_L_31]
  have e2 : cq_L_31.2.2.1 = mu_L_31 := by dsimp only [cq_L_31]
  have e3 : cq_L_31.1 = 937 := by dsimp only [cq_L_31]
  rw [e1, e2, e3]
  exact rf_pcs (l := al_L_31) 1 ck_L_c_31 (List.isEmpty_iff.mp ck_L_n_31)
theorem ck_L_d_32 : ∀ alt ∈ cq_L_32.2.2.2, rf_run nm_cl nm_ct en_xs 8 xx_L kc_L cu_L po_L (some .boolean) 1 0 98 16364 (some cq_L_32.2.2.1) 5000 true cq_L_32.1 alt = true := by
  have e1 : cq_L_32.2.2.2 = al_L_32 := by dsimp only [cq_L_32]
  have e2 : cq_L_32.2.2.1 = mu_L_32 := by dsimp only [cq_L_32]
  have e3 : cq_L_32.1 = 960 := by dsimp only [cq_L_32]
  rw [e1, e2, e3]
  exact rf_pcs (l := al_L_32) 1 ck_L_c_32 (List.isEmpty_iff.mp ck_L_n_32)
theorem ck_L_d_33 : ∀ alt ∈ cq_L_33.2.2.2, rf_run nm_cl nm_ct en_xs 8 xx_L kc_L cu_L po_L (some .boolean) 1 0 98 16364 (some cq_L_33.2.2.1) 5000 true cq_L_33.1 alt = true := by
  have e1 : cq_L_33.2.2.2 = al_L_33 := by dsimp only [cq_L_33]
  have e2 : cq_L_33.2.2.1 = mu_L_33 := by dsimp only [cq_L_33]
  have e3 : cq_L_33.1 = 993 := by dsimp only [cq_L_33]
  rw [e1, e2, e3]
  exact rf_pcs (l := al_L_33) 1 ck_L_c_33 (List.isEmpty_iff.mp ck_L_n_33)
theorem ck_L_d_34 : ∀ alt ∈ cq_L_34.2.2.2, rf_run nm_cl nm_ct en_xs 8 xx_L kc_L cu_L po_L (some .boolean) 1 0 98 16364 (some cq_L_34.2.2.1) 5000 true cq_L_34.1 alt = true := by
  have e1 : cq_L_34.2.2.2 = al_L_34 := by dsimp only [cq_L_34]
  have e2 : cq_L_34.2.2.1 = mu_L_34 := by dsimp only [cq_L_34]
  have e3 : cq_L_34.1 = 1016 := by dsimp only [cq_L_34]
  rw [e1, e2, e3]
  exact rf_pcs (l := al_L_34) 1 ck_L_c_34 (List.isEmpty_iff.mp ck_L_n_34)
theorem ck_L_d_35 : ∀ alt ∈ cq_L_35.2.2.2, rf_run nm_cl nm_ct en_xs 8 xx_L kc_L cu_L po_L (some .boolean) 1 0 98 16364 (some cq_L_35.2.2.1) 5000 true cq_L_35.1 alt = true := by
  have e1 : cq_L_35.2.2.2 = al_L_35 := by dsimp only [cq_L_35]
  have e2 : cq_L_35.2.2.1 = mu_L_35 := by dsimp only [cq_L_35]
  have e3 : cq_L_35.1 = 1039 := by dsimp only [cq_L_35]
  rw [e1, e2, e3]
  exact rf_pcs (l := al_L_35) 1 ck_L_c_35 (List.isEmpty_iff.mp ck_L_n_35)
theorem ck_L_d_36 : ∀ alt ∈ cq_L_36.2.2.2, rf_run nm_cl nm_ct en_xs 8 xx_L kc_L cu_L po_L (some .boolean) 1 0 98 16364 (some cq_L_36.2.2.1) 5000 true cq_L_36.1 alt = true := by
  have e1 : cq_L_36.2.2.2 = al_L_36 := by dsimp only [cq_L_36]
  have e2 : cq_L_36.2.2.1 = mu_L_36 := by dsimp only [cq_L_36]
  have e3 : cq_L_36.1 = 1052 := by dsimp only [cq_L_36]
  rw [e1, e2, e3]
  exact rf_pcs (l := al_L_36) 1 ck_L_c_36 (List.isEmpty_iff.mp ck_L_n_36)
theorem ck_L_d_37 : ∀ alt ∈ cq_L_37.2.2.2, rf_run nm_cl nm_ct en_xs 8 xx_L kc_L cu_L po_L (some .boolean) 1 0 98 16364 (some cq_L_37.2.2.1) 5000 true cq_L_37.1 alt = true := by
  have e1 : cq_L_37.2.2.2 = al_L_37 := by dsimp only [cq_L_37]
  have e2 : cq_L_37.2.2.1 = mu_L_37 := by dsimp only [cq_L_37]
  have e3 : cq_L_37.1 = 1065 := by dsimp only [cq_L_37]
  rw [e1, e2, e3]
  exact rf_pcs (l := al_L_37) 1 ck_L_c_37 (List.isEmpty_iff.mp ck_L_n_37)
theorem ck_L_d_38 : ∀ alt ∈ cq_L_38.2.2.2, rf_run nm_cl nm_ct en_xs 8 xx_L kc_L cu_L po_L (some .boolean) 1 0 98 16364 (some cq_L_38.2.2.1) 5000 true cq_L_38.1 alt = true := by
  have e1 : cq_L_38.2.2.2 = al_L_38 := by dsimp only [cq_L_38]
  have e2 : cq_L_38.2.2.1 = mu_L_38 := by dsimp only [cq_L_38]
  have e3 : cq_L_38.1 = 1078 := by dsimp only [cq_L_38]
  rw [e1, e2, e3]
  exact rf_pcs (l := al_L_38) 1 ck_L_c_38 (List.isEmpty_iff.mp ck_L_n_38)
theorem ck_L_d_39 : ∀ alt ∈ cq_L_39.2.2.2, rf_run nm_cl nm_ct en_xs 8 xx_L kc_L cu_L po_L (some .boolean) 1 0 98 16364 (some cq_L_39.2.2.1) 5000 true cq_L_39.1 alt = true := by
  have e1 : cq_L_39.2.2.2 = al_L_39 := by dsimp only [cq_L_39]
  have e2 : cq_L_39.2.2.1 = mu_L_39 := by dsimp only [cq_L_39]
  have e3 : cq_L_39.1 = 1091 := by dsimp only [cq_L_39]
  rw [e1, e2, e3]
  exact rf_pcs (l := al_L_39) 1 ck_L_c_39 (List.isEmpty_iff.mp ck_L_n_39)
theorem ck_L_d_40 : ∀ alt ∈ cq_L_40.2.2.2, rf_run nm_cl nm_ct en_xs 8 xx_L kc_L cu_L po_L (some .boolean) 1 0 98 16364 (some cq_L_40.2.2.1) 5000 true cq_L_40.1 alt = true := by
  have e1 : cq_L_40.2.2.2 = al_L_40 := by dsimp only [cq_L_40]
  have e2 : cq_L_40.2.2.1 = mu_L_40 := by dsimp only [cq_L_40]
  have e3 : cq_L_40.1 = 1114 := by dsimp only [cq_L_40]
  rw [e1, e2, e3]
  exact rf_pcs (l := al_L_40) 1 ck_L_c_40 (List.isEmpty_iff.mp ck_L_n_40)
theorem ck_L_d_41 : ∀ alt ∈ cq_L_41.2.2.2, rf_run nm_cl nm_ct en_xs 8 xx_L kc_L cu_L po_L (some .boolean) 1 0 98 16364 (some cq_L_41.2.2.1) 5000 true cq_L_41.1 alt = true := by
  have e1 : cq_L_41.2.2.2 = al_L_41 := by dsimp only [cq_L_41]
  have e2 : cq_L_41.2.2.1 = mu_L_41 := by dsimp only [cq_L_41]
  have e3 : cq_L_41.1 = 1157 := by dsimp only [cq_L_41]
  rw [e1, e2, e3]
  exact rf_pcs (l := al_L_41) 1 ck_L_c_41 (List.isEmpty_iff.mp ck_L_n_41)
theorem ck_L_d_42 : ∀ alt ∈ cq_L_42.2.2.2, rf_run nm_cl nm_ct en_xs 8 xx_L kc_L cu_L po_L (some .boolean) 1 0 98 16364 (some cq_L_42.2.2.1) 5000 true cq_L_42.1 alt = true := by
  have e1 : cq_L_42.2.2.2 = al_L_42 := by dsimp only [cq_L_42]
  have e2 : cq_L_42.2.2.1 = mu_L_42 := by dsimp only [cq_L_42]
  have e3 : cq_L_42.1 = 1180 := by dsimp only [cq_L_42]
  rw [e1, e2, e3]
  exact rf_pcs (l := al_L_42) 1 ck_L_c_42 (List.isEmpty_iff.mp ck_L_n_42)
theorem ck_L_d_43 : ∀ alt ∈ cq_L_43.2.2.2, rf_run nm_cl nm_ct en_xs 8 xx_L kc_L cu_L po_L (some .boolean) 1 0 98 16364 (some cq_L_43.2.2.1) 5000 true cq_L_43.1 alt = true := by
  have e1 : cq_L_43.2.2.2 = al_L_43 := by dsimp only [cq_L_43]
  have e2 : cq_L_43.2.2.1 = mu_L_43 := by dsimp only [cq_L_43]
  have e3 : cq_L_43.1 = 1213 := by dsimp only [cq_L_43]
  rw [e1, e2, e3]
  exact rf_pcs (l := al_L_43) 1 ck_L_c_43 (List.isEmpty_iff.mp ck_L_n_43)
theorem ck_L_d_44 : ∀ alt ∈ cq_L_44.2.2.2, rf_run nm_cl nm_ct en_xs 8 xx_L kc_L cu_L po_L (some .boolean) 1 0 98 16364 (some cq_L_44.2.2.1) 5000 true cq_L_44.1 alt = true := by
  have e1 : cq_L_44.2.2.2 = al_L_44 := by dsimp only [cq_L_44]
  have e2 : cq_L_44.2.2.1 = mu_L_44 := by dsimp only [cq_L_44]
  have e3 : cq_L_44.1 = 1256 := by dsimp only [cq_L_44]
  rw [e1, e2, e3]
  exact rf_pcs (l := al_L_44) 1 ck_L_c_44 (List.isEmpty_iff.mp ck_L_n_44)
theorem ck_L_d_45 : ∀ alt ∈ cq_L_45.2.2.2, rf_run nm_cl nm_ct en_xs 8 xx_L kc_L cu_L po_L (some .boolean) 1 0 98 16364 (some cq_L_45.2.2.1) 5000 true cq_L_45.1 alt = true := by
  have e1 : cq_L_45.2.2.2 = al_L_45 := by dsimp only [cq_L_45]
  have e2 : cq_L_45.2.2.1 = mu_L_45 := by dsimp only [cq_L_45]
  have e3 : cq_L_45.1 = 1329 := by dsimp only [cq_L_45]
  rw [e1, e2, e3]
  exact rf_pcs (l := al_L_45) 1 ck_L_c_45 (List.isEmpty_iff.mp ck_L_n_45)
theorem ck_L_d_46 : ∀ alt ∈ cq_L_46.2.2.2, rf_run nm_cl nm_ct en_xs 8 xx_L kc_L cu_L po_L (some .boolean) 1 0 98 16364 (some cq_L_46.2.2.1) 5000 true cq_L_46.1 alt = true := by
  have e1 : cq_L_46.2.2.2 = al_L_46 := by dsimp only [cq_L_46]
  have e2 : cq_L_46.2.2.1 = mu_L_46 := by dsimp only [cq_L_46]
  have e3 : cq_L_46.1 = 1362 := by dsimp only [cq_L_46]
  rw [e1, e2, e3]
  exact rf_pcs (l := al_L_46) 1 ck_L_c_46 (List.isEmpty_iff.mp ck_L_n_46)
theorem ck_L_d_47 : ∀ alt ∈ cq_L_47.2.2.2, rf_run nm_cl nm_ct en_xs 8 xx_L kc_L cu_L po_L (some .boolean) 1 0 98 16364 (some cq_L_47.2.2.1) 5000 true cq_L_47.1 alt = true := by
  have e1 : cq_L_47.2.2.2 = al_L_47 := by dsimp only [cq_L_47]
  have e2 : cq_L_47.2.2.1 = mu_L_47 := by dsimp only [cq_L_47]
  have e3 : cq_L_47.1 = 1425 := by dsimp only [cq_L_47]
  rw [e1, e2, e3]
  exact rf_pcs (l := al_L_47) 1 ck_L_c_47 (List.isEmpty_iff.mp ck_L_n_47)
theorem ck_L_d_48 : ∀ alt ∈ cq_L_48.2.2.2, rf_run nm_cl nm_ct en_xs 8 xx_L kc_L cu_L po_L (some .boolean) 1 0 98 16364 (some cq_L_48.2.2.1) 5000 true cq_L_48.1 alt = true := by
  have e1 : cq_L_48.2.2.2 = al_L_48 := by dsimp only [cq_L_48]
  have e2 : cq_L_48.2.2.1 = mu_L_48 := by dsimp only [cq_L_48]
  have e3 : cq_L_48.1 = 1458 := by dsimp only [cq_L_48]
  rw [e1, e2, e3]
  exact rf_pcs (l := al_L_48) 1 ck_L_c_48 (List.isEmpty_iff.mp ck_L_n_48)
set_option maxRecDepth 100000 in
theorem ck_L_b : ∀ cu ∈ cu_L, Nat.beq cu.2.2.1.length 4 = true ∧ ∀ alt ∈ cu.2.2.2, rf_run nm_cl nm_ct en_xs 8 xx_L kc_L cu_L po_L (some .boolean) 1 0 98 16364 (some cu.2.2.1) 5000 true cu.1 alt = true := List.forall_mem_cons.mpr ⟨⟨rfl, ck_L_d_0⟩, List.forall_mem_cons.mpr ⟨⟨rfl, ck_L_d_1⟩, List.forall_mem_cons.mpr ⟨⟨rfl, ck_L_d_2⟩, List.forall_mem_cons.mpr ⟨⟨rfl, ck_L_d_3⟩, List.forall_mem_cons.mpr ⟨⟨rfl, ck_L_d_4⟩, List.forall_mem_cons.mpr ⟨⟨rfl, ck_L_d_5⟩, List.forall_mem_cons.mpr ⟨⟨rfl, ck_L_d_6⟩, List.forall_mem_cons.mpr ⟨⟨rfl, ck_L_d_7⟩, List.forall_mem_cons.mpr ⟨⟨rfl, ck_L_d_8⟩, List.forall_mem_cons.mpr ⟨⟨rfl, ck_L_d_9⟩, List.forall_mem_cons.mpr ⟨⟨rfl, ck_L_d_10⟩, List.forall_mem_cons.mpr ⟨⟨rfl, ck_L_d_11⟩, List.forall_mem_cons.mpr ⟨⟨rfl, ck_L_d_12⟩, List.forall_mem_cons.mpr ⟨⟨rfl, ck_L_d_13⟩, List.forall_mem_cons.mpr ⟨⟨rfl, ck_L_d_14⟩, List.forall_mem_cons.mpr ⟨⟨rfl, ck_L_d_15⟩, List.forall_mem_cons.mpr ⟨⟨rfl, ck_L_d_16⟩, List.forall_mem_cons.mpr ⟨⟨rfl, ck_L_d_17⟩, List.forall_mem_cons.mpr ⟨⟨rfl, ck_L_d_18⟩, List.forall_mem_cons.mpr ⟨⟨rfl, ck_L_d_19⟩, List.forall_mem_cons.mpr ⟨⟨rfl, ck_L_d_20⟩, List.forall_mem_cons.mpr ⟨⟨rfl, ck_L_d_21⟩, List.forall_mem_cons.mpr ⟨⟨rfl, ck_L_d_22⟩, List.forall_mem_cons.mpr ⟨⟨rfl, ck_L_d_23⟩, List.forall_mem_cons.mpr ⟨⟨rfl, ck_L_d_24⟩, List.forall_mem_cons.mpr ⟨⟨rfl, ck_L_d_25⟩, List.forall_mem_cons.mpr ⟨⟨rfl, ck_L_d_26⟩, List.forall_mem_cons.mpr ⟨⟨rfl, ck_L_d_27⟩, List.forall_mem_cons.mpr ⟨⟨rfl, ck_L_d_28⟩, List.forall_mem_cons.mpr ⟨⟨rfl, ck_L_d_29⟩, List.forall_mem_cons.mpr ⟨⟨rfl, ck_L_d_30⟩, List.forall_mem_cons.mpr ⟨⟨rfl, ck_L_d_31⟩, List.forall_mem_cons.mpr ⟨⟨rfl, ck_L_d_32⟩, List.forall_mem_cons.mpr ⟨⟨rfl, ck_L_d_33⟩, List.forall_mem_cons.mpr ⟨⟨rfl, ck_L_d_34⟩, List.forall_mem_cons.mpr ⟨⟨rfl, ck_L_d_35⟩, List.forall_mem_cons.mpr ⟨⟨rfl, ck_L_d_36⟩, List.forall_mem_cons.mpr ⟨⟨rfl, ck_L_d_37⟩, List.forall_mem_cons.mpr ⟨⟨rfl, ck_L_d_38⟩, List.forall_mem_cons.mpr ⟨⟨rfl, ck_L_d_39⟩, List.forall_mem_cons.mpr ⟨⟨rfl, ck_L_d_40⟩, List.forall_mem_cons.mpr ⟨⟨rfl, ck_L_d_41⟩, List.forall_mem_cons.mpr ⟨⟨rfl, ck_L_d_42⟩, List.forall_mem_cons.mpr ⟨⟨rfl, ck_L_d_43⟩, List.forall_mem_cons.mpr ⟨⟨rfl, ck_L_d_44⟩, List.forall_mem_cons.mpr ⟨⟨rfl, ck_L_d_45⟩, List.forall_mem_cons.mpr ⟨⟨rfl, ck_L_d_46⟩, List.forall_mem_cons.mpr ⟨⟨rfl, ck_L_d_47⟩, List.forall_mem_cons.mpr ⟨⟨rfl, ck_L_d_48⟩, (fun _ h => absurd h List.not_mem_nil)⟩⟩⟩⟩⟩⟩⟩⟩⟩⟩⟩⟩⟩⟩⟩⟩⟩⟩⟩⟩⟩⟩⟩⟩⟩⟩⟩⟩⟩⟩⟩⟩⟩⟩⟩⟩⟩⟩⟩⟩⟩⟩⟩⟩⟩⟩⟩⟩⟩
set_option maxRecDepth 100000 in
theorem ln_L : rf_lens kc_L = true := by decide +kernel
