/-! rows of noughts: what holds of them at the beginning -/
def rf_zero (P : rf_AS) (q1 q2 k1 k2 k3 k4 : Nat) : rf_AS := rf_wE P P.1 ((6, [q1, q2], [(0, 0, 40)]) :: (14, [k1, k2, k3, k4], [(0, 0, 0), (0, 0, 0)]) :: P.2.2.2.2.1)
def rf_zr (w : List rf_AC) (q : Nat) : Bool := match w[q]? with
  | some c => Nat.beq c.1 1 && !(Nat.beq c.2.1 1)
  | none => false
def rf_z40 (w : List rf_AC) (q : Nat) : Bool := match w[q]? with
  | some c => Nat.beq c.1 1 && (!(Nat.beq c.2.1 1) && (Nat.ble 40 c.2.2.1 && (decide (c.2.2.2.1.1 = 0) && decide (c.2.2.2.1.2 = 0))))
  | none => false
theorem rf_zr_spec {ρ : List Int} {ad : List Nat} {xt : Nat → Nat} {tys : List (ClassId × FieldType)} {w : List rf_AC} {es : List va_E} {q : Nat} (hw : rf_L (rf_cell ρ ad xt tys) w es) (h : rf_zr w q = true) : ∃ f, rf_at es q f := by
  unfold rf_zr at h
  split at h
  next c hc =>
    simp only [Bool.and_eq_true, Bool.not_eq_true'] at h
    obtain ⟨e, e1, e2⟩ := rf_L_get hw hc
    obtain ⟨sc, kc, nc, ic, lc⟩ := c
    cases Nat.eq_of_beq_eq_true h.1
    obtain ⟨cA, ty, t1, h5⟩ := e2
    rcases h5 with ⟨h5, f, h6, h7⟩ | ⟨h5, f, h6, h7⟩
    · exact ⟨f, cA, nc, by rw [e1, h6]⟩
    · dsimp only at h5
      rw [h5] at h
      cases h.2
  next => cases h
theorem rf_z40_spec {ρ : List Int} {ad : List Nat} {xt : Nat → Nat} {tys : List (ClassId × FieldType)} {w : List rf_AC} {es : List va_E} {q : Nat} (hw : rf_L (rf_cell ρ ad xt tys) w es) (h : rf_z40 w q = true) : ∃ f, rf_at es q f ∧ ∀ j : Nat, (j : Int) < 40 → (f j).toInt = 0 := by
  unfold rf_z40 at h
  split at h
  next c hc =>
    simp only [Bool.and_eq_true, Bool.not_eq_true', decide_eq_true_eq] at h
    obtain ⟨h1, h2, h3, h4, h5⟩ := h
    obtain ⟨e, e1, e2⟩ := rf_L_get hw hc
    obtain ⟨sc, kc, nc, ic, lc⟩ := c
    cases Nat.eq_of_beq_eq_true h1
    have hn := Nat.le_of_ble_eq_true h3
    dsimp only at hn h4 h5
    obtain ⟨cA, ty, t1, h6⟩ := e2
    rcases h6 with ⟨h6, f, h7, h8⟩ | ⟨h6, f, h7, h8⟩
    · refine ⟨f, ⟨cA, nc, by rw [e1, h7]⟩, fun j hj => ?_⟩
      have h9 := h8 j (by dsimp only; omega)
      dsimp only at h9
      omega
    · dsimp only at h6
      rw [h6] at h2
      cases h2
  next => cases h
theorem rf_alt_zero {cu : rf_CUT} (q1 q2 k1 k2 k3 k4 : Nat) (h0 : cu.2.2.2 = [rf_zero cu.2.1 q1 q2 k1 k2 k3 k4]) (h : (rf_z40 cu.2.1.2.2.2.1 q1 && (rf_z40 cu.2.1.2.2.2.1 q2 && (rf_zr cu.2.1.2.2.2.1 k1 && (rf_zr cu.2.1.2.2.2.1 k2 && (rf_zr cu.2.1.2.2.2.1 k3 && rf_zr cu.2.1.2.2.2.1 k4))))) = true) : rf_ALT cu := by
  simp only [Bool.and_eq_true] at h
  obtain ⟨h1, h2, h3, h4, h5, h6⟩ := h
  intro D cl tys A H0 xt nL ρ ap ad ws H locs ls st hR
  refine ⟨rf_zero cu.2.1 q1 q2 k1 k2 k3 k4, by rw [h0]; exact List.mem_cons_self, rfl, [], ?_⟩
  rw [List.append_nil]
  have hw := hR.2.2.2.1
  obtain ⟨f1, a1, b1⟩ := rf_z40_spec hw h1
  obtain ⟨f2, a2, b2⟩ := rf_z40_spec hw h2
  obtain ⟨g1, c1⟩ := rf_zr_spec hw h3
  obtain ⟨g2, c2⟩ := rf_zr_spec hw h4
  obtain ⟨g3, c3⟩ := rf_zr_spec hw h5
  obtain ⟨g4, c4⟩ := rf_zr_spec hw h6
  refine rf_rel_E hR hR.2.1 rfl rfl rfl (rf_facts_cons (rf_m6 rf_num_c a1 a2 (fun j hj => ?_)) (rf_facts_cons (rf_m14 rf_num_c rf_num_c c1 c2 c3 c4 ⟨Int.le_refl _, Int.le_refl _, rfl⟩) hR.2.2.2.2.1.2.2.2))
  rw [b1 j hj, b2 j hj]
  unfold rf_may rf_gt
  omega
