/-! CLAUSES: what the printed ones rest on -/
section
variable {xt : Nat → Nat} {o : Option va_E}
theorem hl_upb {i v u : Int} (h : 0 ≤ u ∧ u ≤ rf_BIG) (h1 : 0 ≤ i) (h2 : i ≤ 374) : 0 ≤ rf_up i.toNat v u ∧ rf_up i.toNat v u ≤ rf_BIG := by
  have hb := rf_up_big 375 i.toNat v u (by omega) h.1 (by rw [← rf_BIG_eq]; omega)
  rw [← rf_BIG_eq] at hb
  exact ⟨hb.1, by omega⟩
theorem hl_nm {xs : List Int} (p0 : rf_XP xt 30 [o] xs) (hb : 0 ≤ rf_chn xs ∧ rf_chn xs ≤ rf_BIG) : ∃ h, (0 ≤ h ∧ h ≤ rf_BIG) ∧ rf_XP xt 30 [o] [h] ∧ rf_XP xt 41 [] (h :: xs) := by
  obtain ⟨e, rfl⟩ := hc_some p0
  exact ⟨rf_chn xs, hb, p0, rfl⟩
theorem hl_nd {h : Int} {xs : List Int} (p0 : rf_XP xt 30 [o] xs) (p1 : rf_XP xt 41 [] (h :: xs)) : rf_XP xt 30 [o] [h] := by
  obtain ⟨e, rfl⟩ := hc_some p0
  have e1 : h = rf_chn xs := p1
  subst e1
  exact p0
theorem hl_11 {i1 v1 g : Int} (p0 : rf_XP xt 30 [o] [i1, v1, g]) (q0 : 0 ≤ g) (q1 : g ≤ rf_BIG) (q2 : 0 ≤ i1) (q3 : i1 ≤ 374) : ∃ h, (0 ≤ h ∧ h ≤ rf_BIG) ∧ rf_XP xt 30 [o] [h] ∧ rf_XP xt 41 [] [h, i1, v1, g] := hl_nm p0 (hl_upb ⟨q0, q1⟩ q2 q3)
theorem hl_12 {h i1 v1 g : Int} (p0 : rf_XP xt 30 [o] [i1, v1, g]) (p1 : rf_XP xt 41 [] [h, i1, v1, g]) : rf_XP xt 30 [o] [h] := hl_nd p0 p1
theorem hl_13 {i1 v1 i2 v2 g : Int} (p0 : rf_XP xt 30 [o] [i1, v1, i2, v2, g]) (q0 : 0 ≤ g) (q1 : g ≤ rf_BIG) (q2 : 0 ≤ i1) (q3 : i1 ≤ 374) (q4 : 0 ≤ i2) (q5 : i2 ≤ 374) : ∃ h, (0 ≤ h ∧ h ≤ rf_BIG) ∧ rf_XP xt 30 [o] [h] ∧ rf_XP xt 41 [] [h, i1, v1, i2, v2, g] := hl_nm p0 (hl_upb (hl_upb ⟨q0, q1⟩ q4 q5) q2 q3)
theorem hl_14 {h i1 v1 i2 v2 g : Int} (p0 : rf_XP xt 30 [o] [i1, v1, i2, v2, g]) (p1 : rf_XP xt 41 [] [h, i1, v1, i2, v2, g]) : rf_XP xt 30 [o] [h] := hl_nd p0 p1
theorem hl_15 {i1 v1 i2 v2 i3 v3 g : Int} (p0 : rf_XP xt 30 [o] [i1, v1, i2, v2, i3, v3, g]) (q0 : 0 ≤ g) (q1 : g ≤ rf_BIG) (q2 : 0 ≤ i1) (q3 : i1 ≤ 374) (q4 : 0 ≤ i2) (q5 : i2 ≤ 374) (q6 : 0 ≤ i3) (q7 : i3 ≤ 374) : ∃ h, (0 ≤ h ∧ h ≤ rf_BIG) ∧ rf_XP xt 30 [o] [h] ∧ rf_XP xt 41 [] [h, i1, v1, i2, v2, i3, v3, g] := hl_nm p0 (hl_upb (hl_upb (hl_upb ⟨q0, q1⟩ q6 q7) q4 q5) q2 q3)
theorem hl_16 {h i1 v1 i2 v2 i3 v3 g : Int} (p0 : rf_XP xt 30 [o] [i1, v1, i2, v2, i3, v3, g]) (p1 : rf_XP xt 41 [] [h, i1, v1, i2, v2, i3, v3, g]) : rf_XP xt 30 [o] [h] := hl_nd p0 p1
theorem hl_17 {i1 v1 i2 v2 i3 v3 i4 v4 g : Int} (p0 : rf_XP xt 30 [o] [i1, v1, i2, v2, i3, v3, i4, v4, g]) (q0 : 0 ≤ g) (q1 : g ≤ rf_BIG) (q2 : 0 ≤ i1) (q3 : i1 ≤ 374) (q4 : 0 ≤ i2) (q5 : i2 ≤ 374) (q6 : 0 ≤ i3) (q7 : i3 ≤ 374) (q8 : 0 ≤ i4) (q9 : i4 ≤ 374) : ∃ h, (0 ≤ h ∧ h ≤ rf_BIG) ∧ rf_XP xt 30 [o] [h] ∧ rf_XP xt 41 [] [h, i1, v1, i2, v2, i3, v3, i4, v4, g] := hl_nm p0 (hl_upb (hl_upb (hl_upb (hl_upb ⟨q0, q1⟩ q8 q9) q6 q7) q4 q5) q2 q3)
theorem hl_18 {h i1 v1 i2 v2 i3 v3 i4 v4 g : Int} (p0 : rf_XP xt 30 [o] [i1, v1, i2, v2, i3, v3, i4, v4, g]) (p1 : rf_XP xt 41 [] [h, i1, v1, i2, v2, i3, v3, i4, v4, g]) : rf_XP xt 30 [o] [h] := hl_nd p0 p1
theorem hl_19 {i1 v1 i2 v2 i3 v3 i4 v4 i5 v5 g : Int} (p0 : rf_XP xt 30 [o] [i1, v1, i2, v2, i3, v3, i4, v4, i5, v5, g]) (q0 : 0 ≤ g) (q1 : g ≤ rf_BIG) (q2 : 0 ≤ i1) (q3 : i1 ≤ 374) (q4 : 0 ≤ i2) (q5 : i2 ≤ 374) (q6 : 0 ≤ i3) (q7 : i3 ≤ 374) (q8 : 0 ≤ i4) (q9 : i4 ≤ 374) (q10 : 0 ≤ i5) (q11 : i5 ≤ 374) : ∃ h, (0 ≤ h ∧ h ≤ rf_BIG) ∧ rf_XP xt 30 [o] [h] ∧ rf_XP xt 41 [] [h, i1, v1, i2, v2, i3, v3, i4, v4, i5, v5, g] := hl_nm p0 (hl_upb (hl_upb (hl_upb (hl_upb (hl_upb ⟨q0, q1⟩ q10 q11) q8 q9) q6 q7) q4 q5) q2 q3)
theorem hl_20 {h i1 v1 i2 v2 i3 v3 i4 v4 i5 v5 g : Int} (p0 : rf_XP xt 30 [o] [i1, v1, i2, v2, i3, v3, i4, v4, i5, v5, g]) (p1 : rf_XP xt 41 [] [h, i1, v1, i2, v2, i3, v3, i4, v4, i5, v5, g]) : rf_XP xt 30 [o] [h] := hl_nd p0 p1
theorem hl_21 {i1 v1 i2 v2 i3 v3 i4 v4 i5 v5 i6 v6 g : Int} (p0 : rf_XP xt 30 [o] [i1, v1, i2, v2, i3, v3, i4, v4, i5, v5, i6, v6, g]) (q0 : 0 ≤ g) (q1 : g ≤ rf_BIG) (q2 : 0 ≤ i1) (q3 : i1 ≤ 374) (q4 : 0 ≤ i2) (q5 : i2 ≤ 374) (q6 : 0 ≤ i3) (q7 : i3 ≤ 374) (q8 : 0 ≤ i4) (q9 : i4 ≤ 374) (q10 : 0 ≤ i5) (q11 : i5 ≤ 374) (q12 : 0 ≤ i6) (q13 : i6 ≤ 374) : ∃ h, (0 ≤ h ∧ h ≤ rf_BIG) ∧ rf_XP xt 30 [o] [h] ∧ rf_XP xt 41 [] [h, i1, v1, i2, v2, i3, v3, i4, v4, i5, v5, i6, v6, g] := hl_nm p0 (hl_upb (hl_upb (hl_upb (hl_upb (hl_upb (hl_upb ⟨q0, q1⟩ q12 q13) q10 q11) q8 q9) q6 q7) q4 q5) q2 q3)
theorem hl_22 {h i1 v1 i2 v2 i3 v3 i4 v4 i5 v5 i6 v6 g : Int} (p0 : rf_XP xt 30 [o] [i1, v1, i2, v2, i3, v3, i4, v4, i5, v5, i6, v6, g]) (p1 : rf_XP xt 41 [] [h, i1, v1, i2, v2, i3, v3, i4, v4, i5, v5, i6, v6, g]) : rf_XP xt 30 [o] [h] := hl_nd p0 p1
theorem hl_23 {i1 v1 i2 v2 i3 v3 i4 v4 i5 v5 i6 v6 i7 v7 g : Int} (p0 : rf_XP xt 30 [o] [i1, v1, i2, v2, i3, v3, i4, v4, i5, v5, i6, v6, i7, v7, g]) (q0 : 0 ≤ g) (q1 : g ≤ rf_BIG) (q2 : 0 ≤ i1) (q3 : i1 ≤ 374) (q4 : 0 ≤ i2) (q5 : i2 ≤ 374) (q6 : 0 ≤ i3) (q7 : i3 ≤ 374) (q8 : 0 ≤ i4) (q9 : i4 ≤ 374) (q10 : 0 ≤ i5) (q11 : i5 ≤ 374) (q12 : 0 ≤ i6) (q13 : i6 ≤ 374) (q14 : 0 ≤ i7) (q15 : i7 ≤ 374) : ∃ h, (0 ≤ h ∧ h ≤ rf_BIG) ∧ rf_XP xt 30 [o] [h] ∧ rf_XP xt 41 [] [h, i1, v1, i2, v2, i3, v3, i4, v4, i5, v5, i6, v6, i7, v7, g] := hl_nm p0 (hl_upb (hl_upb (hl_upb (hl_upb (hl_upb (hl_upb (hl_upb ⟨q0, q1⟩ q14 q15) q12 q13) q10 q11) q8 q9) q6 q7) q4 q5) q2 q3)
theorem hl_24 {h i1 v1 i2 v2 i3 v3 i4 v4 i5 v5 i6 v6 i7 v7 g : Int} (p0 : rf_XP xt 30 [o] [i1, v1, i2, v2, i3, v3, i4, v4, i5, v5, i6, v6, i7, v7, g]) (p1 : rf_XP xt 41 [] [h, i1, v1, i2, v2, i3, v3, i4, v4, i5, v5, i6, v6, i7, v7, g]) : rf_XP xt 30 [o] [h] := hl_nd p0 p1
theorem hl_25 {i1 v1 i2 v2 i3 v3 i4 v4 i5 v5 i6 v6 i7 v7 i8 v8 g : Int} (p0 : rf_XP xt 30 [o] [i1, v1, i2, v2, i3, v3, i4, v4, i5, v5, i6, v6, i7, v7, i8, v8, g]) (q0 : 0 ≤ g) (q1 : g ≤ rf_BIG) (q2 : 0 ≤ i1) (q3 : i1 ≤ 374) (q4 : 0 ≤ i2) (q5 : i2 ≤ 374) (q6 : 0 ≤ i3) (q7 : i3 ≤ 374) (q8 : 0 ≤ i4) (q9 : i4 ≤ 374) (q10 : 0 ≤ i5) (q11 : i5 ≤ 374) (q12 : 0 ≤ i6) (q13 : i6 ≤ 374) (q14 : 0 ≤ i7) (q15 : i7 ≤ 374) (q16 : 0 ≤ i8) (q17 : i8 ≤ 374) : ∃ h, (0 ≤ h ∧ h ≤ rf_BIG) ∧ rf_XP xt 30 [o] [h] ∧ rf_XP xt 41 [] [h, i1, v1, i2, v2, i3, v3, i4, v4, i5, v5, i6, v6, i7, v7, i8, v8, g] := hl_nm p0 (hl_upb (hl_upb (hl_upb (hl_upb (hl_upb (hl_upb (hl_upb (hl_upb ⟨q0, q1⟩ q16 q17) q14 q15) q12 q13) q10 q11) q8 q9) q6 q7) q4 q5) q2 q3)
theorem hl_26 {h i1 v1 i2 v2 i3 v3 i4 v4 i5 v5 i6 v6 i7 v7 i8 v8 g : Int} (p0 : rf_XP xt 30 [o] [i1, v1, i2, v2, i3, v3, i4, v4, i5, v5, i6, v6, i7, v7, i8, v8, g]) (p1 : rf_XP xt 41 [] [h, i1, v1, i2, v2, i3, v3, i4, v4, i5, v5, i6, v6, i7, v7, i8, v8, g]) : rf_XP xt 30 [o] [h] := hl_nd p0 p1
theorem hl_27 {i1 v1 i2 v2 i3 v3 i4 v4 i5 v5 i6 v6 i7 v7 i8 v8 i9 v9 g : Int} (p0 : rf_XP xt 30 [o] [i1, v1, i2, v2, i3, v3, i4, v4, i5, v5, i6, v6, i7, v7, i8, v8, i9, v9, g]) (q0 : 0 ≤ g) (q1 : g ≤ rf_BIG) (q2 : 0 ≤ i1) (q3 : i1 ≤ 374) (q4 : 0 ≤ i2) (q5 : i2 ≤ 374) (q6 : 0 ≤ i3) (q7 : i3 ≤ 374) (q8 : 0 ≤ i4) (q9 : i4 ≤ 374) (q10 : 0 ≤ i5) (q11 : i5 ≤ 374) (q12 : 0 ≤ i6) (q13 : i6 ≤ 374) (q14 : 0 ≤ i7) (q15 : i7 ≤ 374) (q16 : 0 ≤ i8) (q17 : i8 ≤ 374) (q18 : 0 ≤ i9) (q19 : i9 ≤ 374) : ∃ h, (0 ≤ h ∧ h ≤ rf_BIG) ∧ rf_XP xt 30 [o] [h] ∧ rf_XP xt 41 [] [h, i1, v1, i2, v2, i3, v3, i4, v4, i5, v5, i6, v6, i7, v7, i8, v8, i9, v9, g] := hl_nm p0 (hl_upb (hl_upb (hl_upb (hl_upb (hl_upb (hl_upb (hl_upb (hl_upb (hl_upb ⟨q0, q1⟩ q18 q19) q16 q17) q14 q15) q12 q13) q10 q11) q8 q9) q6 q7) q4 q5) q2 q3)
theorem hl_28 {h i1 v1 i2 v2 i3 v3 i4 v4 i5 v5 i6 v6 i7 v7 i8 v8 i9 v9 g : Int} (p0 : rf_XP xt 30 [o] [i1, v1, i2, v2, i3, v3, i4, v4, i5, v5, i6, v6, i7, v7, i8, v8, i9, v9, g]) (p1 : rf_XP xt 41 [] [h, i1, v1, i2, v2, i3, v3, i4, v4, i5, v5, i6, v6, i7, v7, i8, v8, i9, v9, g]) : rf_XP xt 30 [o] [h] := hl_nd p0 p1
theorem hl_29 {i1 v1 i2 v2 i3 v3 i4 v4 i5 v5 i6 v6 i7 v7 i8 v8 i9 v9 i10 v10 g : Int} (p0 : rf_XP xt 30 [o] [i1, v1, i2, v2, i3, v3, i4, v4, i5, v5, i6, v6, i7, v7, i8, v8, i9, v9, i10, v10, g]) (q0 : 0 ≤ g) (q1 : g ≤ rf_BIG) (q2 : 0 ≤ i1) (q3 : i1 ≤ 374) (q4 : 0 ≤ i2) (q5 : i2 ≤ 374) (q6 : 0 ≤ i3) (q7 : i3 ≤ 374) (q8 : 0 ≤ i4) (q9 : i4 ≤ 374) (q10 : 0 ≤ i5) (q11 : i5 ≤ 374) (q12 : 0 ≤ i6) (q13 : i6 ≤ 374) (q14 : 0 ≤ i7) (q15 : i7 ≤ 374) (q16 : 0 ≤ i8) (q17 : i8 ≤ 374) (q18 : 0 ≤ i9) (q19 : i9 ≤ 374) (q20 : 0 ≤ i10) (q21 : i10 ≤ 374) : ∃ h, (0 ≤ h ∧ h ≤ rf_BIG) ∧ rf_XP xt 30 [o] [h] ∧ rf_XP xt 41 [] [h, i1, v1, i2, v2, i3, v3, i4, v4, i5, v5, i6, v6, i7, v7, i8, v8, i9, v9, i10, v10, g] := hl_nm p0 (hl_upb (hl_upb (hl_upb (hl_upb (hl_upb (hl_upb (hl_upb (hl_upb (hl_upb (hl_upb ⟨q0, q1⟩ q20 q21) q18 q19) q16 q17) q14 q15) q12 q13) q10 q11) q8 q9) q6 q7) q4 q5) q2 q3)
theorem hl_30 {h i1 v1 i2 v2 i3 v3 i4 v4 i5 v5 i6 v6 i7 v7 i8 v8 i9 v9 i10 v10 g : Int} (p0 : rf_XP xt 30 [o] [i1, v1, i2, v2, i3, v3, i4, v4, i5, v5, i6, v6, i7, v7, i8, v8, i9, v9, i10, v10, g]) (p1 : rf_XP xt 41 [] [h, i1, v1, i2, v2, i3, v3, i4, v4, i5, v5, i6, v6, i7, v7, i8, v8, i9, v9, i10, v10, g]) : rf_XP xt 30 [o] [h] := hl_nd p0 p1
theorem hl_31 {i1 v1 i2 v2 i3 v3 i4 v4 i5 v5 i6 v6 i7 v7 i8 v8 i9 v9 i10 v10 i11 v11 g : Int} (p0 : rf_XP xt 30 [o] [i1, v1, i2, v2, i3, v3, i4, v4, i5, v5, i6, v6, i7, v7, i8, v8, i9, v9, i10, v10, i11, v11, g]) (q0 : 0 ≤ g) (q1 : g ≤ rf_BIG) (q2 : 0 ≤ i1) (q3 : i1 ≤ 374) (q4 : 0 ≤ i2) (q5 : i2 ≤ 374) (q6 : 0 ≤ i3) (q7 : i3 ≤ 374) (q8 : 0 ≤ i4) (q9 : i4 ≤ 374) (q10 : 0 ≤ i5) (q11 : i5 ≤ 374) (q12 : 0 ≤ i6) (q13 : i6 ≤ 374) (q14 : 0 ≤ i7) (q15 : i7 ≤ 374) (q16 : 0 ≤ i8) (q17 : i8 ≤ 374) (q18 : 0 ≤ i9) (q19 : i9 ≤ 374) (q20 : 0 ≤ i10) (q21 : i10 ≤ 374) (q22 : 0 ≤ i11) (q23 : i11 ≤ 374) : ∃ h, (0 ≤ h ∧ h ≤ rf_BIG) ∧ rf_XP xt 30 [o] [h] ∧ rf_XP xt 41 [] [h, i1, v1, i2, v2, i3, v3, i4, v4, i5, v5, i6, v6, i7, v7, i8, v8, i9, v9, i10, v10, i11, v11, g] := hl_nm p0 (hl_upb (hl_upb (hl_upb (hl_upb (hl_upb (hl_upb (hl_upb (hl_upb (hl_upb (hl_upb (hl_upb ⟨q0, q1⟩ q22 q23) q20 q21) q18 q19) q16 q17) q14 q15) q12 q13) q10 q11) q8 q9) q6 q7) q4 q5) q2 q3)
theorem hl_32 {h i1 v1 i2 v2 i3 v3 i4 v4 i5 v5 i6 v6 i7 v7 i8 v8 i9 v9 i10 v10 i11 v11 g : Int} (p0 : rf_XP xt 30 [o] [i1, v1, i2, v2, i3, v3, i4, v4, i5, v5, i6, v6, i7, v7, i8, v8, i9, v9, i10, v10, i11, v11, g]) (p1 : rf_XP xt 41 [] [h, i1, v1, i2, v2, i3, v3, i4, v4, i5, v5, i6, v6, i7, v7, i8, v8, i9, v9, i10, v10, i11, v11, g]) : rf_XP xt 30 [o] [h] := hl_nd p0 p1
theorem hl_33 {i1 v1 i2 v2 i3 v3 i4 v4 i5 v5 i6 v6 i7 v7 i8 v8 i9 v9 i10 v10 i11 v11 i12 v12 g : Int} (p0 : rf_XP xt 30 [o] [i1, v1, i2, v2, i3, v3, i4, v4, i5, v5, i6, v6, i7, v7, i8, v8, i9, v9, i10, v10, i11, v11, i12, v12, g]) (q0 : 0 ≤ g) (q1 : g ≤ rf_BIG) (q2 : 0 ≤ i1) (q3 : i1 ≤ 374) (q4 : 0 ≤ i2) (q5 : i2 ≤ 374) (q6 : 0 ≤ i3) (q7 : i3 ≤ 374) (q8 : 0 ≤ i4) (q9 : i4 ≤ 374) (q10 : 0 ≤ i5) (q11 : i5 ≤ 374) (q12 : 0 ≤ i6) (q13 : i6 ≤ 374) (q14 : 0 ≤ i7) (q15 : i7 ≤ 374) (q16 : 0 ≤ i8) (q17 : i8 ≤ 374) (q18 : 0 ≤ i9) (q19 : i9 ≤ 374) (q20 : 0 ≤ i10) (q21 : i10 ≤ 374) (q22 : 0 ≤ i11) (q23 : i11 ≤ 374) (q24 : 0 ≤ i12) (q25 : i12 ≤ 374) : ∃ h, (0 ≤ h ∧ h ≤ rf_BIG) ∧ rf_XP xt 30 [o] [h] ∧ rf_XP xt 41 [] [h, i1, v1, i2, v2, i3, v3, i4, v4, i5, v5, i6, v6, i7, v7, i8, v8, i9, v9, i10, v10, i11, v11, i12, v12, g] := hl_nm p0 (hl_upb (hl_upb (hl_upb (hl_upb (hl_upb (hl_upb (hl_upb (hl_upb (hl_upb (hl_upb (hl_upb (hl_upb ⟨q0, q1⟩ q24 q25) q22 q23) q20 q21) q18 q19) q16 q17) q14 q15) q12 q13) q10 q11) q8 q9) q6 q7) q4 q5) q2 q3)
theorem hl_34 {h i1 v1 i2 v2 i3 v3 i4 v4 i5 v5 i6 v6 i7 v7 i8 v8 i9 v9 i10 v10 i11 v11 i12 v12 g : Int} (p0 : rf_XP xt 30 [o] [i1, v1, i2, v2, i3, v3, i4, v4, i5, v5, i6, v6, i7, v7, i8, v8, i9, v9, i10, v10, i11, v11, i12, v12, g]) (p1 : rf_XP xt 41 [] [h, i1, v1, i2, v2, i3, v3, i4, v4, i5, v5, i6, v6, i7, v7, i8, v8, i9, v9, i10, v10, i11, v11, i12, v12, g]) : rf_XP xt 30 [o] [h] := hl_nd p0 p1
theorem hl_35 {i j r q g : Int} (p0 : rf_XP xt 36 [] [i, r, g]) (p1 : rf_XP xt 36 [] [j, q, g]) (q0 : i ≤ j) (q1 : j ≤ i) : r ≤ q ∧ q ≤ r := by
  have e : i = j := by omega
  subst e
  have a : r = rf_dc i.toNat (rf_chn [g]) := p0.2
  have b : q = rf_dc i.toNat (rf_chn [g]) := p1.2
  omega
theorem hl_36 {o9 a b c d r q : Int} (p0 : rf_XP xt 35 [] [o9, a, b, r]) (p1 : rf_XP xt 35 [] [o9, c, d, q]) (q0 : a ≤ c) (q1 : c ≤ a) (q2 : b ≤ d) (q3 : d ≤ b) : r ≤ q ∧ q ≤ r := by
  have e : a = c := by omega
  have e2 : b = d := by omega
  subst e
  subst e2
  have z : r = rf_wop o9.toNat a b := p0
  have y : q = rf_wop o9.toNat a b := p1
  omega
theorem hl_37 {h b N : Int} (q0 : b + 1 ≤ N) : rf_XP xt 40 [] [2, h, b, N] := fun _ => q0
theorem hl_38 {h b N : Int} (q0 : h ≤ 0) : rf_XP xt 40 [] [2, h, b, N] := fun (e : h = 1) => by omega
theorem hl_39 {h b N : Int} (q0 : 2 ≤ h) : rf_XP xt 40 [] [2, h, b, N] := fun (e : h = 1) => by omega
theorem hl_40 {h b N M : Int} (p0 : rf_XP xt 40 [] [2, h, b, N]) (q0 : N ≤ M) : rf_XP xt 40 [] [2, h, b, M] := fun (e : h = 1) => by
  have a : h = 1 → b + 1 ≤ N := p0
  have := a e
  omega
theorem hl_41 {h b N : Int} (p0 : rf_XP xt 40 [] [2, h, b, N]) (q0 : h ≤ 1) (q1 : 1 ≤ h) : b + 1 ≤ N := by
  have a : h = 1 → b + 1 ≤ N := p0
  exact a (by omega)
theorem hl_42 {r k : Int} (q0 : 0 ≤ r) (q1 : r ≤ 7) (q2 : 0 ≤ k) (q3 : k ≤ 7) : (rf_XP xt 40 [] [3, r, k, 1] ∧ r ≤ 0 ∧ 0 ≤ r ∧ k ≤ 0 ∧ 0 ≤ k) ∨ (rf_XP xt 40 [] [3, r, k, 0] ∧ r ≤ 0 ∧ 0 ≤ r ∧ k ≤ 1 ∧ 1 ≤ k) ∨ (rf_XP xt 40 [] [3, r, k, 0] ∧ r ≤ 0 ∧ 0 ≤ r ∧ k ≤ 2 ∧ 2 ≤ k) ∨ (rf_XP xt 40 [] [3, r, k, 0] ∧ r ≤ 0 ∧ 0 ≤ r ∧ k ≤ 3 ∧ 3 ≤ k) ∨ (rf_XP xt 40 [] [3, r, k, 0] ∧ r ≤ 0 ∧ 0 ≤ r ∧ k ≤ 4 ∧ 4 ≤ k) ∨ (rf_XP xt 40 [] [3, r, k, 0] ∧ r ≤ 0 ∧ 0 ≤ r ∧ k ≤ 5 ∧ 5 ≤ k) ∨ (rf_XP xt 40 [] [3, r, k, 0] ∧ r ≤ 0 ∧ 0 ≤ r ∧ k ≤ 6 ∧ 6 ≤ k) ∨ (rf_XP xt 40 [] [3, r, k, 0] ∧ r ≤ 0 ∧ 0 ≤ r ∧ k ≤ 7 ∧ 7 ≤ k) ∨ (rf_XP xt 40 [] [3, r, k, 1] ∧ r ≤ 1 ∧ 1 ≤ r ∧ k ≤ 0 ∧ 0 ≤ k) ∨ (rf_XP xt 40 [] [3, r, k, 1] ∧ r ≤ 1 ∧ 1 ≤ r ∧ k ≤ 1 ∧ 1 ≤ k) ∨ (rf_XP xt 40 [] [3, r, k, 0] ∧ r ≤ 1 ∧ 1 ≤ r ∧ k ≤ 2 ∧ 2 ≤ k) ∨ (rf_XP xt 40 [] [3, r, k, 0] ∧ r ≤ 1 ∧ 1 ≤ r ∧ k ≤ 3 ∧ 3 ≤ k) ∨ (rf_XP xt 40 [] [3, r, k, 0] ∧ r ≤ 1 ∧ 1 ≤ r ∧ k ≤ 4 ∧ 4 ≤ k) ∨ (rf_XP xt 40 [] [3, r, k, 0] ∧ r ≤ 1 ∧ 1 ≤ r ∧ k ≤ 5 ∧ 5 ≤ k) ∨ (rf_XP xt 40 [] [3, r, k, 0] ∧ r ≤ 1 ∧ 1 ≤ r ∧ k ≤ 6 ∧ 6 ≤ k) ∨ (rf_XP xt 40 [] [3, r, k, 0] ∧ r ≤ 1 ∧ 1 ≤ r ∧ k ≤ 7 ∧ 7 ≤ k) ∨ (rf_XP xt 40 [] [3, r, k, 1] ∧ r ≤ 2 ∧ 2 ≤ r ∧ k ≤ 0 ∧ 0 ≤ k) ∨ (rf_XP xt 40 [] [3, r, k, 0] ∧ r ≤ 2 ∧ 2 ≤ r ∧ k ≤ 1 ∧ 1 ≤ k) ∨ (rf_XP xt 40 [] [3, r, k, 1] ∧ r ≤ 2 ∧ 2 ≤ r ∧ k ≤ 2 ∧ 2 ≤ k) ∨ (rf_XP xt 40 [] [3, r, k, 0] ∧ r ≤ 2 ∧ 2 ≤ r ∧ k ≤ 3 ∧ 3 ≤ k) ∨ (rf_XP xt 40 [] [3, r, k, 0] ∧ r ≤ 2 ∧ 2 ≤ r ∧ k ≤ 4 ∧ 4 ≤ k) ∨ (rf_XP xt 40 [] [3, r, k, 0] ∧ r ≤ 2 ∧ 2 ≤ r ∧ k ≤ 5 ∧ 5 ≤ k) ∨ (rf_XP xt 40 [] [3, r, k, 0] ∧ r ≤ 2 ∧ 2 ≤ r ∧ k ≤ 6 ∧ 6 ≤ k) ∨ (rf_XP xt 40 [] [3, r, k, 0] ∧ r ≤ 2 ∧ 2 ≤ r ∧ k ≤ 7 ∧ 7 ≤ k) ∨ (rf_XP xt 40 [] [3, r, k, 1] ∧ r ≤ 3 ∧ 3 ≤ r ∧ k ≤ 0 ∧ 0 ≤ k) ∨ (rf_XP xt 40 [] [3, r, k, 0] ∧ r ≤ 3 ∧ 3 ≤ r ∧ k ≤ 1 ∧ 1 ≤ k) ∨ (rf_XP xt 40 [] [3, r, k, 1] ∧ r ≤ 3 ∧ 3 ≤ r ∧ k ≤ 2 ∧ 2 ≤ k) ∨ (rf_XP xt 40 [] [3, r, k, 1] ∧ r ≤ 3 ∧ 3 ≤ r ∧ k ≤ 3 ∧ 3 ≤ k) ∨ (rf_XP xt 40 [] [3, r, k, 0] ∧ r ≤ 3 ∧ 3 ≤ r ∧ k ≤ 4 ∧ 4 ≤ k) ∨ (rf_XP xt 40 [] [3, r, k, 0] ∧ r ≤ 3 ∧ 3 ≤ r ∧ k ≤ 5 ∧ 5 ≤ k) ∨ (rf_XP xt 40 [] [3, r, k, 0] ∧ r ≤ 3 ∧ 3 ≤ r ∧ k ≤ 6 ∧ 6 ≤ k) ∨ (rf_XP xt 40 [] [3, r, k, 0] ∧ r ≤ 3 ∧ 3 ≤ r ∧ k ≤ 7 ∧ 7 ≤ k) ∨ (rf_XP xt 40 [] [3, r, k, 1] ∧ r ≤ 4 ∧ 4 ≤ r ∧ k ≤ 0 ∧ 0 ≤ k) ∨ (rf_XP xt 40 [] [3, r, k, 1] ∧ r ≤ 4 ∧ 4 ≤ r ∧ k ≤ 1 ∧ 1 ≤ k) ∨ (rf_XP xt 40 [] [3, r, k, 0] ∧ r ≤ 4 ∧ 4 ≤ r ∧ k ≤ 2 ∧ 2 ≤ k) ∨ (rf_XP xt 40 [] [3, r, k, 0] ∧ r ≤ 4 ∧ 4 ≤ r ∧ k ≤ 3 ∧ 3 ≤ k) ∨ (rf_XP xt 40 [] [3, r, k, 1] ∧ r ≤ 4 ∧ 4 ≤ r ∧ k ≤ 4 ∧ 4 ≤ k) ∨ (rf_XP xt 40 [] [3, r, k, 0] ∧ r ≤ 4 ∧ 4 ≤ r ∧ k ≤ 5 ∧ 5 ≤ k) ∨ (rf_XP xt 40 [] [3, r, k, 0] ∧ r ≤ 4 ∧ 4 ≤ r ∧ k ≤ 6 ∧ 6 ≤ k) ∨ (rf_XP xt 40 [] [3, r, k, 0] ∧ r ≤ 4 ∧ 4 ≤ r ∧ k ≤ 7 ∧ 7 ≤ k) ∨ (rf_XP xt 40 [] [3, r, k, 1] ∧ r ≤ 5 ∧ 5 ≤ r ∧ k ≤ 0 ∧ 0 ≤ k) ∨ (rf_XP xt 40 [] [3, r, k, 0] ∧ r ≤ 5 ∧ 5 ≤ r ∧ k ≤ 1 ∧ 1 ≤ k) ∨ (rf_XP xt 40 [] [3, r, k, 1] ∧ r ≤ 5 ∧ 5 ≤ r ∧ k ≤ 2 ∧ 2 ≤ k) ∨ (rf_XP xt 40 [] [3, r, k, 1] ∧ r ≤ 5 ∧ 5 ≤ r ∧ k ≤ 3 ∧ 3 ≤ k) ∨ (rf_XP xt 40 [] [3, r, k, 0] ∧ r ≤ 5 ∧ 5 ≤ r ∧ k ≤ 4 ∧ 4 ≤ k) ∨ (rf_XP xt 40 [] [3, r, k, 1] ∧ r ≤ 5 ∧ 5 ≤ r ∧ k ≤ 5 ∧ 5 ≤ k) ∨ (rf_XP xt 40 [] [3, r, k, 0] ∧ r ≤ 5 ∧ 5 ≤ r ∧ k ≤ 6 ∧ 6 ≤ k) ∨ (rf_XP xt 40 [] [3, r, k, 0] ∧ r ≤ 5 ∧ 5 ≤ r ∧ k ≤ 7 ∧ 7 ≤ k) ∨ (rf_XP xt 40 [] [3, r, k, 1] ∧ r ≤ 6 ∧ 6 ≤ r ∧ k ≤ 0 ∧ 0 ≤ k) ∨ (rf_XP xt 40 [] [3, r, k, 0] ∧ r ≤ 6 ∧ 6 ≤ r ∧ k ≤ 1 ∧ 1 ≤ k) ∨ (rf_XP xt 40 [] [3, r, k, 0] ∧ r ≤ 6 ∧ 6 ≤ r ∧ k ≤ 2 ∧ 2 ≤ k) ∨ (rf_XP xt 40 [] [3, r, k, 0] ∧ r ≤ 6 ∧ 6 ≤ r ∧ k ≤ 3 ∧ 3 ≤ k) ∨ (rf_XP xt 40 [] [3, r, k, 0] ∧ r ≤ 6 ∧ 6 ≤ r ∧ k ≤ 4 ∧ 4 ≤ k) ∨ (rf_XP xt 40 [] [3, r, k, 0] ∧ r ≤ 6 ∧ 6 ≤ r ∧ k ≤ 5 ∧ 5 ≤ k) ∨ (rf_XP xt 40 [] [3, r, k, 1] ∧ r ≤ 6 ∧ 6 ≤ r ∧ k ≤ 6 ∧ 6 ≤ k) ∨ (rf_XP xt 40 [] [3, r, k, 0] ∧ r ≤ 6 ∧ 6 ≤ r ∧ k ≤ 7 ∧ 7 ≤ k) ∨ (rf_XP xt 40 [] [3, r, k, 1] ∧ r ≤ 7 ∧ 7 ≤ r ∧ k ≤ 0 ∧ 0 ≤ k) ∨ (rf_XP xt 40 [] [3, r, k, 0] ∧ r ≤ 7 ∧ 7 ≤ r ∧ k ≤ 1 ∧ 1 ≤ k) ∨ (rf_XP xt 40 [] [3, r, k, 0] ∧ r ≤ 7 ∧ 7 ≤ r ∧ k ≤ 2 ∧ 2 ≤ k) ∨ (rf_XP xt 40 [] [3, r, k, 0] ∧ r ≤ 7 ∧ 7 ≤ r ∧ k ≤ 3 ∧ 3 ≤ k) ∨ (rf_XP xt 40 [] [3, r, k, 0] ∧ r ≤ 7 ∧ 7 ≤ r ∧ k ≤ 4 ∧ 4 ≤ k) ∨ (rf_XP xt 40 [] [3, r, k, 0] ∧ r ≤ 7 ∧ 7 ≤ r ∧ k ≤ 5 ∧ 5 ≤ k) ∨ (rf_XP xt 40 [] [3, r, k, 1] ∧ r ≤ 7 ∧ 7 ≤ r ∧ k ≤ 6 ∧ 6 ≤ k) ∨ (rf_XP xt 40 [] [3, r, k, 1] ∧ r ≤ 7 ∧ 7 ≤ r ∧ k ≤ 7 ∧ 7 ≤ k) := by
  have hr : r = 0 ∨ r = 1 ∨ r = 2 ∨ r = 3 ∨ r = 4 ∨ r = 5 ∨ r = 6 ∨ r = 7 := by omega
  have hk : k = 0 ∨ k = 1 ∨ k = 2 ∨ k = 3 ∨ k = 4 ∨ k = 5 ∨ k = 6 ∨ k = 7 := by omega
  rcases hr with rfl | rfl | rfl | rfl | rfl | rfl | rfl | rfl <;> rcases hk with rfl | rfl | rfl | rfl | rfl | rfl | rfl | rfl
  · exact Or.inl ⟨rfl, by decide, by decide, by decide, by decide⟩
  · exact Or.inr (Or.inl ⟨rfl, by decide, by decide, by decide, by decide⟩)
  · exact Or.inr (Or.inr (Or.inl ⟨rfl, by decide, by decide, by decide, by decide⟩))
  · exact Or.inr (Or.inr (Or.inr (Or.inl ⟨rfl, by decide, by decide, by decide, by decide⟩)))
  · exact Or.inr (Or.inr (Or.inr (Or.inr (Or.inl ⟨rfl, by decide, by decide, by decide, by decide⟩))))
  · exact Or.inr (Or.inr (Or.inr (Or.inr (Or.inr (Or.inl ⟨rfl, by decide, by decide, by decide, by decide⟩)))))
  · exact Or.inr (Or.inr (Or.inr (Or.inr (Or.inr (Or.inr (Or.inl ⟨rfl, by decide, by decide, by decide, by decide⟩))))))
  · exact Or.inr (Or.inr (Or.inr (Or.inr (Or.inr (Or.inr (Or.inr (Or.inl ⟨rfl, by decide, by decide, by decide, by decide⟩)))))))
  · exact Or.inr (Or.inr (Or.inr (Or.inr (Or.inr (Or.inr (Or.inr (Or.inr (Or.inl ⟨rfl, by decide, by decide, by decide, by decide⟩))))))))
  · exact Or.inr (Or.inr (Or.inr (Or.inr (Or.inr (Or.inr (Or.inr (Or.inr (Or.inr (Or.inl ⟨rfl, by decide, by decide, by decide, by decide⟩)))))))))
  · exact Or.inr (Or.inr (Or.inr (Or.inr (Or.inr (Or.inr (Or.inr (Or.inr (Or.inr (Or.inr (Or.inl ⟨rfl, by decide, by decide, by decide, by decide⟩))))))))))
  · exact Or.inr (Or.inr (Or.inr (Or.inr (Or.inr (Or.inr (Or.inr (Or.inr (Or.inr (Or.inr (Or.inr (Or.inl ⟨rfl, by decide, by decide, by decide, by decide⟩)))))))))))
  · exact Or.inr (Or.inr (Or.inr (Or.inr (Or.inr (Or.inr (Or.inr (Or.inr (Or.inr (Or.inr (Or.inr (Or.inr (Or.inl ⟨rfl, by decide, by decide, by decide, by decide⟩))))))))))))
  · exact Or.inr (Or.inr (Or.inr (Or.inr (Or.inr (Or.inr (Or.inr (Or.inr (Or.inr (Or.inr (Or.inr (Or.inr (Or.inr (Or.inl ⟨rfl, by decide, by decide, by decide, by decide⟩)))))))))))))
  · exact Or.inr (Or.inr (Or.inr (Or.inr (Or.inr (Or.inr (Or.inr (Or.inr (Or.inr (Or.inr (Or.inr (Or.inr (Or.inr (Or.inr (Or.inl ⟨rfl, by decide, by decide, by decide, by decide⟩))))))))))))))
  · exact Or.inr (Or.inr (Or.inr (Or.inr (Or.inr (Or.inr (Or.inr (Or.inr (Or.inr (Or.inr (Or.inr (Or.inr (Or.inr (Or.inr (Or.inr (Or.inl ⟨rfl, by decide, by decide, by decide, by decide⟩)))))))))))))))
  · exact Or.inr (Or.inr (Or.inr (Or.inr (Or.inr (Or.inr (Or.inr (Or.inr (Or.inr (Or.inr (Or.inr (Or.inr (Or.inr (Or.inr (Or.inr (Or.inr (Or.inl ⟨rfl, by decide, by decide, by decide, by decide⟩))))))))))))))))
  · exact Or.inr (Or.inr (Or.inr (Or.inr (Or.inr (Or.inr (Or.inr (Or.inr (Or.inr (Or.inr (Or.inr (Or.inr (Or.inr (Or.inr (Or.inr (Or.inr (Or.inr (Or.inl ⟨rfl, by decide, by decide, by decide, by decide⟩)))))))))))))))))
  · exact Or.inr (Or.inr (Or.inr (Or.inr (Or.inr (Or.inr (Or.inr (Or.inr (Or.inr (Or.inr (Or.inr (Or.inr (Or.inr (Or.inr (Or.inr (Or.inr (Or.inr (Or.inr (Or.inl ⟨rfl, by decide, by decide, by decide, by decide⟩))))))))))))))))))
  · exact Or.inr (Or.inr (Or.inr (Or.inr (Or.inr (Or.inr (Or.inr (Or.inr (Or.inr (Or.inr (Or.inr (Or.inr (Or.inr (Or.inr (Or.inr (Or.inr (Or.inr (Or.inr (Or.inr (Or.inl ⟨rfl, by decide, by decide, by decide, by decide⟩)))))))))))))))))))
  · exact Or.inr (Or.inr (Or.inr (Or.inr (Or.inr (Or.inr (Or.inr (Or.inr (Or.inr (Or.inr (Or.inr (Or.inr (Or.inr (Or.inr (Or.inr (Or.inr (Or.inr (Or.inr (Or.inr (Or.inr (Or.inl ⟨rfl, by decide, by decide, by decide, by decide⟩))))))))))))))))))))
  · exact Or.inr (Or.inr (Or.inr (Or.inr (Or.inr (Or.inr (Or.inr (Or.inr (Or.inr (Or.inr (Or.inr (Or.inr (Or.inr (Or.inr (Or.inr (Or.inr (Or.inr (Or.inr (Or.inr (Or.inr (Or.inr (Or.inl ⟨rfl, by decide, by decide, by decide, by decide⟩)))))))))))))))))))))
  · exact Or.inr (Or.inr (Or.inr (Or.inr (Or.inr (Or.inr (Or.inr (Or.inr (Or.inr (Or.inr (Or.inr (Or.inr (Or.inr (Or.inr (Or.inr (Or.inr (Or.inr (Or.inr (Or.inr (Or.inr (Or.inr (Or.inr (Or.inl ⟨rfl, by decide, by decide, by decide, by decide⟩))))))))))))))))))))))
  · exact Or.inr (Or.inr (Or.inr (Or.inr (Or.inr (Or.inr (Or.inr (Or.inr (Or.inr (Or.inr (Or.inr (Or.inr (Or.inr (Or.inr (Or.inr (Or.inr (Or.inr (Or.inr (Or.inr (Or.inr (Or.inr (Or.inr (Or.inr (Or.inl ⟨rfl, by decide, by decide, by decide, by decide⟩)))))))))))))))))))))))
  · exact Or.inr (Or.inr (Or.inr (Or.inr (Or.inr (Or.inr (Or.inr (Or.inr (Or.inr (Or.inr (Or.inr (Or.inr (Or.inr (Or.inr (Or.inr (Or.inr (Or.inr (Or.inr (Or.inr (Or.inr (Or.inr (Or.inr (Or.inr (Or.inr (Or.inl ⟨rfl, by decide, by decide, by decide, by decide⟩))))))))))))))))))))))))
  · exact Or.inr (Or.inr (Or.inr (Or.inr (Or.inr (Or.inr (Or.inr (Or.inr (Or.inr (Or.inr (Or.inr (Or.inr (Or.inr (Or.inr (Or.inr (Or.inr (Or.inr (Or.inr (Or.inr (Or.inr (Or.inr (Or.inr (Or.inr (Or.inr (Or.inr (Or.inl ⟨rfl, by decide, by decide, by decide, by decide⟩)))))))))))))))))))))))))
  · exact Or.inr (Or.inr (Or.inr (Or.inr (Or.inr (Or.inr (Or.inr (Or.inr (Or.inr (Or.inr (Or.inr (Or.inr (Or.inr (Or.inr (Or.inr (Or.inr (Or.inr (Or.inr (Or.inr (Or.inr (Or.inr (Or.inr (Or.inr (Or.inr (Or.inr (Or.inr (Or.inl ⟨rfl, by decide, by decide, by decide, by decide⟩))))))))))))))))))))))))))
  · exact Or.inr (Or.inr (Or.inr (Or.inr (Or.inr (Or.inr (Or.inr (Or.inr (Or.inr (Or.inr (Or.inr (Or.inr (Or.inr (Or.inr (Or.inr (Or.inr (Or.inr (Or.inr (Or.inr (Or.inr (Or.inr (Or.inr (Or.inr (Or.inr (Or.inr (Or.inr (Or.inr (Or.inl ⟨rfl, by decide, by decide, by decide, by decide⟩)))))))))))))))))))))))))))
  · exact Or.inr (Or.inr (Or.inr (Or.inr (Or.inr (Or.inr (Or.inr (Or.inr (Or.inr (Or.inr (Or.inr (Or.inr (Or.inr (Or.inr (Or.inr (Or.inr (Or.inr (Or.inr (Or.inr (Or.inr (Or.inr (Or.inr (Or.inr (Or.inr (Or.inr (Or.inr (Or.inr (Or.inr (Or.inl ⟨rfl, by decide, by decide, by decide, by decide⟩))))))))))))))))))))))))))))
  · exact Or.inr (Or.inr (Or.inr (Or.inr (Or.inr (Or.inr (Or.inr (Or.inr (Or.inr (Or.inr (Or.inr (Or.inr (Or.inr (Or.inr (Or.inr (Or.inr (Or.inr (Or.inr (Or.inr (Or.inr (Or.inr (Or.inr (Or.inr (Or.inr (Or.inr (Or.inr (Or.inr (Or.inr (Or.inr (Or.inl ⟨rfl, by decide, by decide, by decide, by decide⟩)))))))))))))))))))))))))))))
  · exact Or.inr (Or.inr (Or.inr (Or.inr (Or.inr (Or.inr (Or.inr (Or.inr (Or.inr (Or.inr (Or.inr (Or.inr (Or.inr (Or.inr (Or.inr (Or.inr (Or.inr (Or.inr (Or.inr (Or.inr (Or.inr (Or.inr (Or.inr (Or.inr (Or.inr (Or.inr (Or.inr (Or.inr (Or.inr (Or.inr (Or.inl ⟨rfl, by decide, by decide, by decide, by decide⟩))))))))))))))))))))))))))))))
  · exact Or.inr (Or.inr (Or.inr (Or.inr (Or.inr (Or.inr (Or.inr (Or.inr (Or.inr (Or.inr (Or.inr (Or.inr (Or.inr (Or.inr (Or.inr (Or.inr (Or.inr (Or.inr (Or.inr (Or.inr (Or.inr (Or.inr (Or.inr (Or.inr (Or.inr (Or.inr (Or.inr (Or.inr (Or.inr (Or.inr (Or.inr (Or.inl ⟨rfl, by decide, by decide, by decide, by decide⟩)))))))))))))))))))))))))))))))
  · exact Or.inr (Or.inr (Or.inr (Or.inr (Or.inr (Or.inr (Or.inr (Or.inr (Or.inr (Or.inr (Or.inr (Or.inr (Or.inr (Or.inr (Or.inr (Or.inr (Or.inr (Or.inr (Or.inr (Or.inr (Or.inr (Or.inr (Or.inr (Or.inr (Or.inr (Or.inr (Or.inr (Or.inr (Or.inr (Or.inr (Or.inr (Or.inr (Or.inl ⟨rfl, by decide, by decide, by decide, by decide⟩))))))))))))))))))))))))))))))))
  · exact Or.inr (Or.inr (Or.inr (Or.inr (Or.inr (Or.inr (Or.inr (Or.inr (Or.inr (Or.inr (Or.inr (Or.inr (Or.inr (Or.inr (Or.inr (Or.inr (Or.inr (Or.inr (Or.inr (Or.inr (Or.inr (Or.inr (Or.inr (Or.inr (Or.inr (Or.inr (Or.inr (Or.inr (Or.inr (Or.inr (Or.inr (Or.inr (Or.inr (Or.inl ⟨rfl, by decide, by decide, by decide, by decide⟩)))))))))))))))))))))))))))))))))
  · exact Or.inr (Or.inr (Or.inr (Or.inr (Or.inr (Or.inr (Or.inr (Or.inr (Or.inr (Or.inr (Or.inr (Or.inr (Or.inr (Or.inr (Or.inr (Or.inr (Or.inr (Or.inr (Or.inr (Or.inr (Or.inr (Or.inr (Or.inr (Or.inr (Or.inr (Or.inr (Or.inr (Or.inr (Or.inr (Or.inr (Or.inr (Or.inr (Or.inr (Or.inr (Or.inl ⟨rfl, by decide, by decide, by decide, by decide⟩))))))))))))))))))))))))))))))))))
  · exact Or.inr (Or.inr (Or.inr (Or.inr (Or.inr (Or.inr (Or.inr (Or.inr (Or.inr (Or.inr (Or.inr (Or.inr (Or.inr (Or.inr (Or.inr (Or.inr (Or.inr (Or.inr (Or.inr (Or.inr (Or.inr (Or.inr (Or.inr (Or.inr (Or.inr (Or.inr (Or.inr (Or.inr (Or.inr (Or.inr (Or.inr (Or.inr (Or.inr (Or.inr (Or.inr (Or.inl ⟨rfl, by decide, by decide, by decide, by decide⟩)))))))))))))))))))))))))))))))))))
  · exact Or.inr (Or.inr (Or.inr (Or.inr (Or.inr (Or.inr (Or.inr (Or.inr (Or.inr (Or.inr (Or.inr (Or.inr (Or.inr (Or.inr (Or.inr (Or.inr (Or.inr (Or.inr (Or.inr (Or.inr (Or.inr (Or.inr (Or.inr (Or.inr (Or.inr (Or.inr (Or.inr (Or.inr (Or.inr (Or.inr (Or.inr (Or.inr (Or.inr (Or.inr (Or.inr (Or.inr (Or.inl ⟨rfl, by decide, by decide, by decide, by decide⟩))))))))))))))))))))))))))))))))))))
  · exact Or.inr (Or.inr (Or.inr (Or.inr (Or.inr (Or.inr (Or.inr (Or.inr (Or.inr (Or.inr (Or.inr (Or.inr (Or.inr (Or.inr (Or.inr (Or.inr (Or.inr (Or.inr (Or.inr (Or.inr (Or.inr (Or.inr (Or.inr (Or.inr (Or.inr (Or.inr (Or.inr (Or.inr (Or.inr (Or.inr (Or.inr (Or.inr (Or.inr (Or.inr (Or.inr (Or.inr (Or.inr (Or.inl ⟨rfl, by decide, by decide, by decide, by decide⟩)))))))))))))))))))))))))))))))))))))
  · exact Or.inr (Or.inr (Or.inr (Or.inr (Or.inr (Or.inr (Or.inr (Or.inr (Or.inr (Or.inr (Or.inr (Or.inr (Or.inr (Or.inr (Or.inr (Or.inr (Or.inr (Or.inr (Or.inr (Or.inr (Or.inr (Or.inr (Or.inr (Or.inr (Or.inr (Or.inr (Or.inr (Or.inr (Or.inr (Or.inr (Or.inr (Or.inr (Or.inr (Or.inr (Or.inr (Or.inr (Or.inr (Or.inr (Or.inl ⟨rfl, by decide, by decide, by decide, by decide⟩))))))))))))))))))))))))))))))))))))))
  · exact Or.inr (Or.inr (Or.inr (Or.inr (Or.inr (Or.inr (Or.inr (Or.inr (Or.inr (Or.inr (Or.inr (Or.inr (Or.inr (Or.inr (Or.inr (Or.inr (Or.inr (Or.inr (Or.inr (Or.inr (Or.inr (Or.inr (Or.inr (Or.inr (Or.inr (Or.inr (Or.inr (Or.inr (Or.inr (Or.inr (Or.inr (Or.inr (Or.inr (Or.inr (Or.inr (Or.inr (Or.inr (Or.inr (Or.inr (Or.inl ⟨rfl, by decide, by decide, by decide, by decide⟩)))))))))))))))))))))))))))))))))))))))
  · exact Or.inr (Or.inr (Or.inr (Or.inr (Or.inr (Or.inr (Or.inr (Or.inr (Or.inr (Or.inr (Or.inr (Or.inr (Or.inr (Or.inr (Or.inr (Or.inr (Or.inr (Or.inr (Or.inr (Or.inr (Or.inr (Or.inr (Or.inr (Or.inr (Or.inr (Or.inr (Or.inr (Or.inr (Or.inr (Or.inr (Or.inr (Or.inr (Or.inr (Or.inr (Or.inr (Or.inr (Or.inr (Or.inr (Or.inr (Or.inr (Or.inl ⟨rfl, by decide, by decide, by decide, by decide⟩))))))))))))))))))))))))))))))))))))))))
  · exact Or.inr (Or.inr (Or.inr (Or.inr (Or.inr (Or.inr (Or.inr (Or.inr (Or.inr (Or.inr (Or.inr (Or.inr (Or.inr (Or.inr (Or.inr (Or.inr (Or.inr (Or.inr (Or.inr (Or.inr (Or.inr (Or.inr (Or.inr (Or.inr (Or.inr (Or.inr (Or.inr (Or.inr (Or.inr (Or.inr (Or.inr (Or.inr (Or.inr (Or.inr (Or.inr (Or.inr (Or.inr (Or.inr (Or.inr (Or.inr (Or.inr (Or.inl ⟨rfl, by decide, by decide, by decide, by decide⟩)))))))))))))))))))))))))))))))))))))))))
  · exact Or.inr (Or.inr (Or.inr (Or.inr (Or.inr (Or.inr (Or.inr (Or.inr (Or.inr (Or.inr (Or.inr (Or.inr (Or.inr (Or.inr (Or.inr (Or.inr (Or.inr (Or.inr (Or.inr (Or.inr (Or.inr (Or.inr (Or.inr (Or.inr (Or.inr (Or.inr (Or.inr (Or.inr (Or.inr (Or.inr (Or.inr (Or.inr (Or.inr (Or.inr (Or.inr (Or.inr (Or.inr (Or.inr (Or.inr (Or.inr (Or.inr (Or.inr (Or.inl ⟨rfl, by decide, by decide, by decide, by decide⟩))))))))))))))))))))))))))))))))))))))))))
  · exact Or.inr (Or.inr (Or.inr (Or.inr (Or.inr (Or.inr (Or.inr (Or.inr (Or.inr (Or.inr (Or.inr (Or.inr (Or.inr (Or.inr (Or.inr (Or.inr (Or.inr (Or.inr (Or.inr (Or.inr (Or.inr (Or.inr (Or.inr (Or.inr (Or.inr (Or.inr (Or.inr (Or.inr (Or.inr (Or.inr (Or.inr (Or.inr (Or.inr (Or.inr (Or.inr (Or.inr (Or.inr (Or.inr (Or.inr (Or.inr (Or.inr (Or.inr (Or.inr (Or.inl ⟨rfl, by decide, by decide, by decide, by decide⟩)))))))))))))))))))))))))))))))))))))))))))
  · exact Or.inr (Or.inr (Or.inr (Or.inr (Or.inr (Or.inr (Or.inr (Or.inr (Or.inr (Or.inr (Or.inr (Or.inr (Or.inr (Or.inr (Or.inr (Or.inr (Or.inr (Or.inr (Or.inr (Or.inr (Or.inr (Or.inr (Or.inr (Or.inr (Or.inr (Or.inr (Or.inr (Or.inr (Or.inr (Or.inr (Or.inr (Or.inr (Or.inr (Or.inr (Or.inr (Or.inr (Or.inr (Or.inr (Or.inr (Or.inr (Or.inr (Or.inr (Or.inr (Or.inr (Or.inl ⟨rfl, by decide, by decide, by decide, by decide⟩))))))))))))))))))))))))))))))))))))))))))))
  · exact Or.inr (Or.inr (Or.inr (Or.inr (Or.inr (Or.inr (Or.inr (Or.inr (Or.inr (Or.inr (Or.inr (Or.inr (Or.inr (Or.inr (Or.inr (Or.inr (Or.inr (Or.inr (Or.inr (Or.inr (Or.inr (Or.inr (Or.inr (Or.inr (Or.inr (Or.inr (Or.inr (Or.inr (Or.inr (Or.inr (Or.inr (Or.inr (Or.inr (Or.inr (Or.inr (Or.inr (Or.inr (Or.inr (Or.inr (Or.inr (Or.inr (Or.inr (Or.inr (Or.inr (Or.inr (Or.inl ⟨rfl, by decide, by decide, by decide, by decide⟩)))))))))))))))))))))))))))))))))))))))))))))
  · exact Or.inr (Or.inr (Or.inr (Or.inr (Or.inr (Or.inr (Or.inr (Or.inr (Or.inr (Or.inr (Or.inr (Or.inr (Or.inr (Or.inr (Or.inr (Or.inr (Or.inr (Or.inr (Or.inr (Or.inr (Or.inr (Or.inr (Or.inr (Or.inr (Or.inr (Or.inr (Or.inr (Or.inr (Or.inr (Or.inr (Or.inr (Or.inr (Or.inr (Or.inr (Or.inr (Or.inr (Or.inr (Or.inr (Or.inr (Or.inr (Or.inr (Or.inr (Or.inr (Or.inr (Or.inr (Or.inr (Or.inl ⟨rfl, by decide, by decide, by decide, by decide⟩))))))))))))))))))))))))))))))))))))))))))))))
  · exact Or.inr (Or.inr (Or.inr (Or.inr (Or.inr (Or.inr (Or.inr (Or.inr (Or.inr (Or.inr (Or.inr (Or.inr (Or.inr (Or.inr (Or.inr (Or.inr (Or.inr (Or.inr (Or.inr (Or.inr (Or.inr (Or.inr (Or.inr (Or.inr (Or.inr (Or.inr (Or.inr (Or.inr (Or.inr (Or.inr (Or.inr (Or.inr (Or.inr (Or.inr (Or.inr (Or.inr (Or.inr (Or.inr (Or.inr (Or.inr (Or.inr (Or.inr (Or.inr (Or.inr (Or.inr (Or.inr (Or.inr (Or.inl ⟨rfl, by decide, by decide, by decide, by decide⟩)))))))))))))))))))))))))))))))))))))))))))))))
  · exact Or.inr (Or.inr (Or.inr (Or.inr (Or.inr (Or.inr (Or.inr (Or.inr (Or.inr (Or.inr (Or.inr (Or.inr (Or.inr (Or.inr (Or.inr (Or.inr (Or.inr (Or.inr (Or.inr (Or.inr (Or.inr (Or.inr (Or.inr (Or.inr (Or.inr (Or.inr (Or.inr (Or.inr (Or.inr (Or.inr (Or.inr (Or.inr (Or.inr (Or.inr (Or.inr (Or.inr (Or.inr (Or.inr (Or.inr (Or.inr (Or.inr (Or.inr (Or.inr (Or.inr (Or.inr (Or.inr (Or.inr (Or.inr (Or.inl ⟨rfl, by decide, by decide, by decide, by decide⟩))))))))))))))))))))))))))))))))))))))))))))))))
  · exact Or.inr (Or.inr (Or.inr (Or.inr (Or.inr (Or.inr (Or.inr (Or.inr (Or.inr (Or.inr (Or.inr (Or.inr (Or.inr (Or.inr (Or.inr (Or.inr (Or.inr (Or.inr (Or.inr (Or.inr (Or.inr (Or.inr (Or.inr (Or.inr (Or.inr (Or.inr (Or.inr (Or.inr (Or.inr (Or.inr (Or.inr (Or.inr (Or.inr (Or.inr (Or.inr (Or.inr (Or.inr (Or.inr (Or.inr (Or.inr (Or.inr (Or.inr (Or.inr (Or.inr (Or.inr (Or.inr (Or.inr (Or.inr (Or.inr (Or.inl ⟨rfl, by decide, by decide, by decide, by decide⟩)))))))))))))))))))))))))))))))))))))))))))))))))
  · exact Or.inr (Or.inr (Or.inr (Or.inr (Or.inr (Or.inr (Or.inr (Or.inr (Or.inr (Or.inr (Or.inr (Or.inr (Or.inr (Or.inr (Or.inr (Or.inr (Or.inr (Or.inr (Or.inr (Or.inr (Or.inr (Or.inr (Or.inr (Or.inr (Or.inr (Or.inr (Or.inr (Or.inr (Or.inr (Or.inr (Or.inr (Or.inr (Or.inr (Or.inr (Or.inr (Or.inr (Or.inr (Or.inr (Or.inr (Or.inr (Or.inr (Or.inr (Or.inr (Or.inr (Or.inr (Or.inr (Or.inr (Or.inr (Or.inr (Or.inr (Or.inl ⟨rfl, by decide, by decide, by decide, by decide⟩))))))))))))))))))))))))))))))))))))))))))))))))))
  · exact Or.inr (Or.inr (Or.inr (Or.inr (Or.inr (Or.inr (Or.inr (Or.inr (Or.inr (Or.inr (Or.inr (Or.inr (Or.inr (Or.inr (Or.inr (Or.inr (Or.inr (Or.inr (Or.inr (Or.inr (Or.inr (Or.inr (Or.inr (Or.inr (Or.inr (Or.inr (Or.inr (Or.inr (Or.inr (Or.inr (Or.inr (Or.inr (Or.inr (Or.inr (Or.inr (Or.inr (Or.inr (Or.inr (Or.inr (Or.inr (Or.inr (Or.inr (Or.inr (Or.inr (Or.inr (Or.inr (Or.inr (Or.inr (Or.inr (Or.inr (Or.inr (Or.inl ⟨rfl, by decide, by decide, by decide, by decide⟩)))))))))))))))))))))))))))))))))))))))))))))))))))
  · exact Or.inr (Or.inr (Or.inr (Or.inr (Or.inr (Or.inr (Or.inr (Or.inr (Or.inr (Or.inr (Or.inr (Or.inr (Or.inr (Or.inr (Or.inr (Or.inr (Or.inr (Or.inr (Or.inr (Or.inr (Or.inr (Or.inr (Or.inr (Or.inr (Or.inr (Or.inr (Or.inr (Or.inr (Or.inr (Or.inr (Or.inr (Or.inr (Or.inr (Or.inr (Or.inr (Or.inr (Or.inr (Or.inr (Or.inr (Or.inr (Or.inr (Or.inr (Or.inr (Or.inr (Or.inr (Or.inr (Or.inr (Or.inr (Or.inr (Or.inr (Or.inr (Or.inr (Or.inl ⟨rfl, by decide, by decide, by decide, by decide⟩))))))))))))))))))))))))))))))))))))))))))))))))))))
  · exact Or.inr (Or.inr (Or.inr (Or.inr (Or.inr (Or.inr (Or.inr (Or.inr (Or.inr (Or.inr (Or.inr (Or.inr (Or.inr (Or.inr (Or.inr (Or.inr (Or.inr (Or.inr (Or.inr (Or.inr (Or.inr (Or.inr (Or.inr (Or.inr (Or.inr (Or.inr (Or.inr (Or.inr (Or.inr (Or.inr (Or.inr (Or.inr (Or.inr (Or.inr (Or.inr (Or.inr (Or.inr (Or.inr (Or.inr (Or.inr (Or.inr (Or.inr (Or.inr (Or.inr (Or.inr (Or.inr (Or.inr (Or.inr (Or.inr (Or.inr (Or.inr (Or.inr (Or.inr (Or.inl ⟨rfl, by decide, by decide, by decide, by decide⟩)))))))))))))))))))))))))))))))))))))))))))))))))))))
  · exact Or.inr (Or.inr (Or.inr (Or.inr (Or.inr (Or.inr (Or.inr (Or.inr (Or.inr (Or.inr (Or.inr (Or.inr (Or.inr (Or.inr (Or.inr (Or.inr (Or.inr (Or.inr (Or.inr (Or.inr (Or.inr (Or.inr (Or.inr (Or.inr (Or.inr (Or.inr (Or.inr (Or.inr (Or.inr (Or.inr (Or.inr (Or.inr (Or.inr (Or.inr (Or.inr (Or.inr (Or.inr (Or.inr (Or.inr (Or.inr (Or.inr (Or.inr (Or.inr (Or.inr (Or.inr (Or.inr (Or.inr (Or.inr (Or.inr (Or.inr (Or.inr (Or.inr (Or.inr (Or.inr (Or.inl ⟨rfl, by decide, by decide, by decide, by decide⟩))))))))))))))))))))))))))))))))))))))))))))))))))))))
  · exact Or.inr (Or.inr (Or.inr (Or.inr (Or.inr (Or.inr (Or.inr (Or.inr (Or.inr (Or.inr (Or.inr (Or.inr (Or.inr (Or.inr (Or.inr (Or.inr (Or.inr (Or.inr (Or.inr (Or.inr (Or.inr (Or.inr (Or.inr (Or.inr (Or.inr (Or.inr (Or.inr (Or.inr (Or.inr (Or.inr (Or.inr (Or.inr (Or.inr (Or.inr (Or.inr (Or.inr (Or.inr (Or.inr (Or.inr (Or.inr (Or.inr (Or.inr (Or.inr (Or.inr (Or.inr (Or.inr (Or.inr (Or.inr (Or.inr (Or.inr (Or.inr (Or.inr (Or.inr (Or.inr (Or.inr (Or.inl ⟨rfl, by decide, by decide, by decide, by decide⟩)))))))))))))))))))))))))))))))))))))))))))))))))))))))
  · exact Or.inr (Or.inr (Or.inr (Or.inr (Or.inr (Or.inr (Or.inr (Or.inr (Or.inr (Or.inr (Or.inr (Or.inr (Or.inr (Or.inr (Or.inr (Or.inr (Or.inr (Or.inr (Or.inr (Or.inr (Or.inr (Or.inr (Or.inr (Or.inr (Or.inr (Or.inr (Or.inr (Or.inr (Or.inr (Or.inr (Or.inr (Or.inr (Or.inr (Or.inr (Or.inr (Or.inr (Or.inr (Or.inr (Or.inr (Or.inr (Or.inr (Or.inr (Or.inr (Or.inr (Or.inr (Or.inr (Or.inr (Or.inr (Or.inr (Or.inr (Or.inr (Or.inr (Or.inr (Or.inr (Or.inr (Or.inr (Or.inl ⟨rfl, by decide, by decide, by decide, by decide⟩))))))))))))))))))))))))))))))))))))))))))))))))))))))))
  · exact Or.inr (Or.inr (Or.inr (Or.inr (Or.inr (Or.inr (Or.inr (Or.inr (Or.inr (Or.inr (Or.inr (Or.inr (Or.inr (Or.inr (Or.inr (Or.inr (Or.inr (Or.inr (Or.inr (Or.inr (Or.inr (Or.inr (Or.inr (Or.inr (Or.inr (Or.inr (Or.inr (Or.inr (Or.inr (Or.inr (Or.inr (Or.inr (Or.inr (Or.inr (Or.inr (Or.inr (Or.inr (Or.inr (Or.inr (Or.inr (Or.inr (Or.inr (Or.inr (Or.inr (Or.inr (Or.inr (Or.inr (Or.inr (Or.inr (Or.inr (Or.inr (Or.inr (Or.inr (Or.inr (Or.inr (Or.inr (Or.inr (Or.inl ⟨rfl, by decide, by decide, by decide, by decide⟩)))))))))))))))))))))))))))))))))))))))))))))))))))))))))
  · exact Or.inr (Or.inr (Or.inr (Or.inr (Or.inr (Or.inr (Or.inr (Or.inr (Or.inr (Or.inr (Or.inr (Or.inr (Or.inr (Or.inr (Or.inr (Or.inr (Or.inr (Or.inr (Or.inr (Or.inr (Or.inr (Or.inr (Or.inr (Or.inr (Or.inr (Or.inr (Or.inr (Or.inr (Or.inr (Or.inr (Or.inr (Or.inr (Or.inr (Or.inr (Or.inr (Or.inr (Or.inr (Or.inr (Or.inr (Or.inr (Or.inr (Or.inr (Or.inr (Or.inr (Or.inr (Or.inr (Or.inr (Or.inr (Or.inr (Or.inr (Or.inr (Or.inr (Or.inr (Or.inr (Or.inr (Or.inr (Or.inr (Or.inr (Or.inl ⟨rfl, by decide, by decide, by decide, by decide⟩))))))))))))))))))))))))))))))))))))))))))))))))))))))))))
  · exact Or.inr (Or.inr (Or.inr (Or.inr (Or.inr (Or.inr (Or.inr (Or.inr (Or.inr (Or.inr (Or.inr (Or.inr (Or.inr (Or.inr (Or.inr (Or.inr (Or.inr (Or.inr (Or.inr (Or.inr (Or.inr (Or.inr (Or.inr (Or.inr (Or.inr (Or.inr (Or.inr (Or.inr (Or.inr (Or.inr (Or.inr (Or.inr (Or.inr (Or.inr (Or.inr (Or.inr (Or.inr (Or.inr (Or.inr (Or.inr (Or.inr (Or.inr (Or.inr (Or.inr (Or.inr (Or.inr (Or.inr (Or.inr (Or.inr (Or.inr (Or.inr (Or.inr (Or.inr (Or.inr (Or.inr (Or.inr (Or.inr (Or.inr (Or.inr (Or.inl ⟨rfl, by decide, by decide, by decide, by decide⟩)))))))))))))))))))))))))))))))))))))))))))))))))))))))))))
  · exact Or.inr (Or.inr (Or.inr (Or.inr (Or.inr (Or.inr (Or.inr (Or.inr (Or.inr (Or.inr (Or.inr (Or.inr (Or.inr (Or.inr (Or.inr (Or.inr (Or.inr (Or.inr (Or.inr (Or.inr (Or.inr (Or.inr (Or.inr (Or.inr (Or.inr (Or.inr (Or.inr (Or.inr (Or.inr (Or.inr (Or.inr (Or.inr (Or.inr (Or.inr (Or.inr (Or.inr (Or.inr (Or.inr (Or.inr (Or.inr (Or.inr (Or.inr (Or.inr (Or.inr (Or.inr (Or.inr (Or.inr (Or.inr (Or.inr (Or.inr (Or.inr (Or.inr (Or.inr (Or.inr (Or.inr (Or.inr (Or.inr (Or.inr (Or.inr (Or.inr (Or.inl ⟨rfl, by decide, by decide, by decide, by decide⟩))))))))))))))))))))))))))))))))))))))))))))))))))))))))))))
  · exact Or.inr (Or.inr (Or.inr (Or.inr (Or.inr (Or.inr (Or.inr (Or.inr (Or.inr (Or.inr (Or.inr (Or.inr (Or.inr (Or.inr (Or.inr (Or.inr (Or.inr (Or.inr (Or.inr (Or.inr (Or.inr (Or.inr (Or.inr (Or.inr (Or.inr (Or.inr (Or.inr (Or.inr (Or.inr (Or.inr (Or.inr (Or.inr (Or.inr (Or.inr (Or.inr (Or.inr (Or.inr (Or.inr (Or.inr (Or.inr (Or.inr (Or.inr (Or.inr (Or.inr (Or.inr (Or.inr (Or.inr (Or.inr (Or.inr (Or.inr (Or.inr (Or.inr (Or.inr (Or.inr (Or.inr (Or.inr (Or.inr (Or.inr (Or.inr (Or.inr (Or.inr (Or.inl ⟨rfl, by decide, by decide, by decide, by decide⟩)))))))))))))))))))))))))))))))))))))))))))))))))))))))))))))
  · exact Or.inr (Or.inr (Or.inr (Or.inr (Or.inr (Or.inr (Or.inr (Or.inr (Or.inr (Or.inr (Or.inr (Or.inr (Or.inr (Or.inr (Or.inr (Or.inr (Or.inr (Or.inr (Or.inr (Or.inr (Or.inr (Or.inr (Or.inr (Or.inr (Or.inr (Or.inr (Or.inr (Or.inr (Or.inr (Or.inr (Or.inr (Or.inr (Or.inr (Or.inr (Or.inr (Or.inr (Or.inr (Or.inr (Or.inr (Or.inr (Or.inr (Or.inr (Or.inr (Or.inr (Or.inr (Or.inr (Or.inr (Or.inr (Or.inr (Or.inr (Or.inr (Or.inr (Or.inr (Or.inr (Or.inr (Or.inr (Or.inr (Or.inr (Or.inr (Or.inr (Or.inr (Or.inr (Or.inl ⟨rfl, by decide, by decide, by decide, by decide⟩))))))))))))))))))))))))))))))))))))))))))))))))))))))))))))))
  · exact Or.inr (Or.inr (Or.inr (Or.inr (Or.inr (Or.inr (Or.inr (Or.inr (Or.inr (Or.inr (Or.inr (Or.inr (Or.inr (Or.inr (Or.inr (Or.inr (Or.inr (Or.inr (Or.inr (Or.inr (Or.inr (Or.inr (Or.inr (Or.inr (Or.inr (Or.inr (Or.inr (Or.inr (Or.inr (Or.inr (Or.inr (Or.inr (Or.inr (Or.inr (Or.inr (Or.inr (Or.inr (Or.inr (Or.inr (Or.inr (Or.inr (Or.inr (Or.inr (Or.inr (Or.inr (Or.inr (Or.inr (Or.inr (Or.inr (Or.inr (Or.inr (Or.inr (Or.inr (Or.inr (Or.inr (Or.inr (Or.inr (Or.inr (Or.inr (Or.inr (Or.inr (Or.inr (Or.inr (⟨rfl, by decide, by decide, by decide, by decide⟩)))))))))))))))))))))))))))))))))))))))))))))))))))))))))))))))
theorem hl_43 {r q k : Int} (p0 : rf_XP xt 40 [] [3, r, k, 0]) (p1 : rf_XP xt 40 [] [3, q, k, 1]) (q0 : r ≤ q) (q1 : q ≤ r) : False := by
  have e : r = q := by omega
  subst e
  have a : (0 : Int) = rf_und r.toNat k.toNat := p0
  have b : (1 : Int) = rf_und r.toNat k.toNat := p1
  omega
theorem hl_44 {a b r q : Int} (p0 : rf_XP xt 8 [] [-2, a, r]) (p1 : rf_XP xt 8 [] [-2, b, q]) : (a + 1 ≤ b ∧ q + 1 ≤ r) ∨ (a ≤ b ∧ b ≤ a ∧ r ≤ q ∧ q ≤ r) ∨ (b + 1 ≤ a ∧ r + 1 ≤ q) := by
  have e1 : r = -2 - a := p0
  have e2 : q = -2 - b := p1
  omega
theorem hl_45 {a b : Int} : a + 1 ≤ b ∨ (a ≤ b ∧ b ≤ a) ∨ b + 1 ≤ a := by omega
theorem hl_46 {L i t n : Int} (p0 : rf_XP xt 8 [] [L, i, t]) (q0 : t + 1 ≤ n) : rf_XP xt 33 [] [i, n, L] := by
  have e : t = L - i := p0
  show L + 1 ≤ i + n
  omega
theorem hl_47 {L i t n : Int} (p0 : rf_XP xt 8 [] [L, i, t]) (q0 : n ≤ t) : rf_XP xt 9 [] [i, n, L] := by
  have e : t = L - i := p0
  show i + n ≤ L
  omega
theorem hl_48 {L n u i : Int} (p0 : rf_XP xt 8 [] [L, n, u]) (q0 : u + 1 ≤ i) : rf_XP xt 33 [] [i, n, L] := by
  have e : u = L - n := p0
  show L + 1 ≤ i + n
  omega
theorem hl_49 {L n u i : Int} (p0 : rf_XP xt 8 [] [L, n, u]) (q0 : i ≤ u) : rf_XP xt 9 [] [i, n, L] := by
  have e : u = L - n := p0
  show i + n ≤ L
  omega
theorem hl_50 {i n L z : Int} (p0 : rf_XP xt 9 [] [i, n, L]) (p1 : rf_XP xt 33 [] [i, n, z]) (q0 : L ≤ z) (q1 : z ≤ L) : False := by
  have e1 : i + n ≤ L := p0
  have e2 : z + 1 ≤ i + n := p1
  omega
theorem hl_51 {a b c d : Int} (q0 : a + 1 ≤ b) (q1 : b ≤ c) (q2 : c ≤ d) (q3 : d ≤ a) : False := by omega
theorem hl_52 {i n L z : Int} (p0 : rf_XP xt 9 [] [i, n, L]) (p1 : rf_XP xt 33 [] [n, i, z]) (q0 : L ≤ z) (q1 : z ≤ L) : False := by
  have e1 : i + n ≤ L := p0
  have e2 : z + 1 ≤ n + i := p1
  omega
theorem hl_53   : rf_XP xt 11 [] [60, 0, 0] := by
  show (0 : Int) = 60 * 0
  rfl
theorem hl_54   : rf_XP xt 11 [] [60, 1, 60] := by
  show (60 : Int) = 60 * 1
  rfl
theorem hl_55   : rf_XP xt 11 [] [60, 2, 120] := by
  show (120 : Int) = 60 * 2
  rfl
theorem hl_56   : rf_XP xt 11 [] [60, 3, 180] := by
  show (180 : Int) = 60 * 3
  rfl
theorem hl_57   : rf_XP xt 11 [] [60, 4, 240] := by
  show (240 : Int) = 60 * 4
  rfl
theorem hl_58   : rf_XP xt 11 [] [60, 5, 300] := by
  show (300 : Int) = 60 * 5
  rfl
theorem hl_59 {g a : Int}   : rf_XP xt 40 [] [5, g, a, a] := by
  show ∀ j : Nat, a ≤ (j : Int) → (j : Int) < a → rf_dc j g = 0
  intro j h1 h2
  omega
theorem hl_60 {g a b G : Int} (p0 : rf_XP xt 40 [] [5, g, a, b]) (p1 : rf_XP xt 31 [] [G, g, b, 0])  : rf_XP xt 40 [] [5, G, a, b + 1] := by
  have a0 : ∀ j : Nat, a ≤ (j : Int) → (j : Int) < b → rf_dc j g = 0 := p0
  obtain ⟨b0, b1⟩ : 0 ≤ b ∧ G = rf_up b.toNat 0 g := p1
  show ∀ j : Nat, a ≤ (j : Int) → (j : Int) < b + 1 → rf_dc j G = 0
  intro j h1 h2
  rw [b1, rf_dc_up (by omega) (by omega)]
  by_cases hj : j = b.toNat
  · rw [if_pos hj]
  · rw [if_neg hj]
    exact a0 j h1 (by omega)
theorem hl_61 {g a : Int}   : rf_XP xt 40 [] [7, g, g, a, a] := by
  show ∀ j : Nat, ¬ (a ≤ (j : Int) ∧ (j : Int) < a) → rf_dc j g = rf_dc j g
  intro j _
  rfl
theorem hl_62 {f g a b G v : Int} (p0 : rf_XP xt 40 [] [7, f, g, a, b]) (p1 : rf_XP xt 31 [] [G, f, b, v]) (q0 : -9223372036854775808 ≤ v) (q1 : v ≤ 9223372036854775807) (q2 : a ≤ b) : rf_XP xt 40 [] [7, G, g, a, b + 1] := by
  have a0 : ∀ j : Nat, ¬ (a ≤ (j : Int) ∧ (j : Int) < b) → rf_dc j f = rf_dc j g := p0
  obtain ⟨b0, b1⟩ : 0 ≤ b ∧ G = rf_up b.toNat v f := p1
  show ∀ j : Nat, ¬ (a ≤ (j : Int) ∧ (j : Int) < b + 1) → rf_dc j G = rf_dc j g
  intro j h1
  rw [b1, rf_dc_up q0 q1, if_neg (by omega)]
  exact a0 j (by omega)
theorem hl_63 {g h d s : Int}   : rf_XP xt 40 [] [6, g, g, h, d, s, 0] := by
  show ∀ j : Nat, j ≤ 374 → rf_dc j g = if d ≤ (j : Int) ∧ (j : Int) < d + 0 then rf_dc (s + ((j : Int) - d)).toNat h else rf_dc j g
  intro j _
  rw [if_neg (by omega)]
theorem hl_64 {f g h e k p r G y : Int} (p0 : rf_XP xt 40 [] [6, f, g, h, 0, e, k]) (p1 : rf_XP xt 36 [] [p, r, h]) (p2 : rf_XP xt 31 [] [G, f, k, r]) (p3 : rf_XP xt 10 [] [y, k, p]) (q0 : 0 ≤ e) (q1 : 0 ≤ k) (q2 : y ≤ e) (q3 : e ≤ y) : rf_XP xt 40 [] [6, G, g, h, 0, e, k + 1] := by
  have a0 : ∀ j : Nat, j ≤ 374 → rf_dc j f = if (0 : Int) ≤ (j : Int) ∧ (j : Int) < (0 : Int) + k then rf_dc (e + ((j : Int) - (0 : Int))).toNat h else rf_dc j g := p0
  have b2 : r = rf_dc p.toNat h := p1.2
  obtain ⟨c0, c1⟩ : 0 ≤ k ∧ G = rf_up k.toNat r f := p2
  have d0 : p = y + k := p3
  show ∀ j : Nat, j ≤ 374 → rf_dc j G = if (0 : Int) ≤ (j : Int) ∧ (j : Int) < (0 : Int) + (k + 1) then rf_dc (e + ((j : Int) - (0 : Int))).toNat h else rf_dc j g
  intro j hj
  rw [c1, b2, rf_dc_up (rf_dc_rng _ _).1 (rf_dc_rng _ _).2]
  by_cases h1 : j = k.toNat
  · rw [if_pos h1, if_pos (by omega)]
    congr 1
    omega
  · rw [if_neg h1, a0 j hj]
    by_cases h2 : (j : Int) < k
    · rw [if_pos (by omega), if_pos (by omega)]
    · rw [if_neg (by omega), if_neg (by omega)]
theorem hl_65 {f g h d k r q G y : Int} (p0 : rf_XP xt 40 [] [6, f, g, h, d, 0, k]) (p1 : rf_XP xt 36 [] [k, r, h]) (p2 : rf_XP xt 31 [] [G, f, q, r]) (p3 : rf_XP xt 10 [] [y, k, q]) (q0 : 0 ≤ d) (q1 : 0 ≤ k) (q2 : y ≤ d) (q3 : d ≤ y) : rf_XP xt 40 [] [6, G, g, h, d, 0, k + 1] := by
  have a0 : ∀ j : Nat, j ≤ 374 → rf_dc j f = if d ≤ (j : Int) ∧ (j : Int) < d + k then rf_dc ((0 : Int) + ((j : Int) - d)).toNat h else rf_dc j g := p0
  have b2 : r = rf_dc k.toNat h := p1.2
  obtain ⟨c0, c1⟩ : 0 ≤ q ∧ G = rf_up q.toNat r f := p2
  have d0 : q = y + k := p3
  show ∀ j : Nat, j ≤ 374 → rf_dc j G = if d ≤ (j : Int) ∧ (j : Int) < d + (k + 1) then rf_dc ((0 : Int) + ((j : Int) - d)).toNat h else rf_dc j g
  intro j hj
  rw [c1, b2, rf_dc_up (rf_dc_rng _ _).1 (rf_dc_rng _ _).2]
  by_cases h1 : j = q.toNat
  · rw [if_pos h1, if_pos (by omega)]
    congr 1
    omega
  · rw [if_neg h1, a0 j hj]
    by_cases h2 : d ≤ (j : Int) ∧ (j : Int) < d + k
    · rw [if_pos h2, if_pos (by omega)]
    · rw [if_neg h2, if_neg (by omega)]
theorem hl_66 {s : Int}  (q0 : 0 ≤ s) (q1 : s ≤ 5) : ∃ y1 : Int, (0 ≤ y1 ∧ y1 ≤ 300) ∧ rf_XP xt 11 [] [60, s, y1] := by
  exact ⟨60 * s, ⟨by omega, by omega⟩, rfl⟩
theorem hl_67 {x i : Int}  (q0 : 0 ≤ x) (q1 : x ≤ 300) (q2 : 0 ≤ i) (q3 : i ≤ 60) : ∃ y1 : Int, (0 ≤ y1 ∧ y1 ≤ 360) ∧ rf_XP xt 10 [] [x, i, y1] := by
  exact ⟨x + i, ⟨by omega, by omega⟩, rfl⟩
theorem hl_68 {s x i e : Int} (p0 : rf_XP xt 11 [] [60, s, x]) (p1 : rf_XP xt 10 [] [x, i, e]) (q0 : s ≤ 0) (q1 : 0 ≤ s) : e ≤ i ∧ i ≤ e := by
  have d0 : x = 60 * s := p0
  have e0 : e = x + i := p1
  omega
theorem hl_69 {s x i e : Int} (p0 : rf_XP xt 11 [] [60, s, x]) (p1 : rf_XP xt 10 [] [x, i, e]) (q0 : s ≤ 1) (q1 : 1 ≤ s) : e ≤ i + 60 ∧ i + 60 ≤ e := by
  have d0 : x = 60 * s := p0
  have e0 : e = x + i := p1
  omega
theorem hl_70 {s x i e : Int} (p0 : rf_XP xt 11 [] [60, s, x]) (p1 : rf_XP xt 10 [] [x, i, e]) (q0 : s ≤ 2) (q1 : 2 ≤ s) : e ≤ i + 120 ∧ i + 120 ≤ e := by
  have d0 : x = 60 * s := p0
  have e0 : e = x + i := p1
  omega
theorem hl_71 {s x i e : Int} (p0 : rf_XP xt 11 [] [60, s, x]) (p1 : rf_XP xt 10 [] [x, i, e]) (q0 : s ≤ 3) (q1 : 3 ≤ s) : e ≤ i + 180 ∧ i + 180 ≤ e := by
  have d0 : x = 60 * s := p0
  have e0 : e = x + i := p1
  omega
theorem hl_72 {s x i e : Int} (p0 : rf_XP xt 11 [] [60, s, x]) (p1 : rf_XP xt 10 [] [x, i, e]) (q0 : s ≤ 4) (q1 : 4 ≤ s) : e ≤ i + 240 ∧ i + 240 ≤ e := by
  have d0 : x = 60 * s := p0
  have e0 : e = x + i := p1
  omega
theorem hl_73 {s x i e : Int} (p0 : rf_XP xt 11 [] [60, s, x]) (p1 : rf_XP xt 10 [] [x, i, e]) (q0 : s ≤ 5) (q1 : 5 ≤ s) : e ≤ i + 300 ∧ i + 300 ≤ e := by
  have d0 : x = 60 * s := p0
  have e0 : e = x + i := p1
  omega
theorem hl_74 {o9 v a w : Int} (p0 : rf_XP xt 35 [] [5, v, 0, a]) (p1 : rf_XP xt 35 [] [6, a, 0, w]) (q0 : o9 ≤ 0) (q1 : 0 ≤ o9) : rf_XP xt 40 [] [8, o9, v, w] := by
  have a0 : a = rf_wop 5 v 0 := p0
  have b0 : w = rf_wop 6 a 0 := p1
  show w = rf_nr o9 v
  unfold rf_nr
  rw [if_pos (by omega), b0, a0]
theorem hl_75 {o9 v a w : Int} (p0 : rf_XP xt 35 [] [5, v, 0, a]) (p1 : rf_XP xt 35 [] [7, a, 0, w]) (q0 : o9 ≤ 1) (q1 : 1 ≤ o9) : rf_XP xt 40 [] [8, o9, v, w] := by
  have a0 : a = rf_wop 5 v 0 := p0
  have b0 : w = rf_wop 7 a 0 := p1
  show w = rf_nr o9 v
  unfold rf_nr
  rw [if_neg (by omega), if_pos (by omega), b0, a0]
theorem hl_76 {o9 v w : Int} (p0 : rf_XP xt 35 [] [5, v, 0, w]) (q0 : o9 ≤ 2) (q1 : 2 ≤ o9) : rf_XP xt 40 [] [8, o9, v, w] := by
  have a0 : w = rf_wop 5 v 0 := p0
  show w = rf_nr o9 v
  unfold rf_nr
  rw [if_neg (by omega), if_neg (by omega), if_pos (by omega), a0]
theorem hl_77 {o9 v : Int}  (q0 : o9 ≤ 3) (q1 : 3 ≤ o9) : rf_XP xt 40 [] [8, o9, v, v] := by
  show v = rf_nr o9 v
  unfold rf_nr
  rw [if_neg (by omega), if_neg (by omega), if_neg (by omega), if_pos (by omega)]
theorem hl_78 {o9 v : Int}  (q0 : 4 ≤ o9) (q1 : v ≤ 0) (q2 : 0 ≤ v) : rf_XP xt 40 [] [8, o9, v, 0] := by
  show (0 : Int) = rf_nr o9 v
  unfold rf_nr
  rw [if_neg (by omega), if_neg (by omega), if_neg (by omega), if_neg (by omega), if_pos (by omega)]
theorem hl_79 {o9 v : Int}  (q0 : 4 ≤ o9) (q1 : 1 ≤ v) : rf_XP xt 40 [] [8, o9, v, 1] := by
  show (1 : Int) = rf_nr o9 v
  unfold rf_nr
  rw [if_neg (by omega), if_neg (by omega), if_neg (by omega), if_neg (by omega), if_neg (by omega)]
theorem hl_80 {o9 v : Int}  (q0 : 4 ≤ o9) (q1 : v ≤ -1) : rf_XP xt 40 [] [8, o9, v, 1] := by
  show (1 : Int) = rf_nr o9 v
  unfold rf_nr
  rw [if_neg (by omega), if_neg (by omega), if_neg (by omega), if_neg (by omega), if_neg (by omega)]
theorem hl_81 {a v w b u x : Int} (p0 : rf_XP xt 40 [] [8, a, v, w]) (p1 : rf_XP xt 40 [] [8, b, u, x]) (q0 : a ≤ b) (q1 : b ≤ a) (q2 : v ≤ u) (q3 : u ≤ v) : w ≤ x ∧ x ≤ w := by
  have a0 : w = rf_nr a v := p0
  have b0 : x = rf_nr b u := p1
  rw [show a = b by omega, show v = u by omega] at a0
  omega
theorem hl_82 {a r b : Int} (p0 : rf_XP xt 8 [] [-2, a, r]) (p1 : rf_XP xt 8 [] [-2, r, b])  : a ≤ b ∧ b ≤ a := by
  have e1 : r = -2 - a := p0
  have e2 : b = -2 - r := p1
  omega
theorem hl_83 {r g s i q t j : Int} (p0 : rf_XP xt 40 [] [9, r, g, s, i]) (p1 : rf_XP xt 40 [] [9, q, g, t, j]) (q0 : s ≤ t) (q1 : t ≤ s) (q2 : i ≤ j) (q3 : j ≤ i) : r ≤ q ∧ q ≤ r := by
  have a0 : r = rf_dc (60 * s + i).toNat g := p0
  have b0 : q = rf_dc (60 * t + j).toNat g := p1
  rw [show s = t by omega, show i = j by omega] at a0
  omega
theorem hl_84 {h n g G s i r : Int} (p0 : rf_XP xt 40 [] [4, h, n, g, G, s]) (p1 : rf_XP xt 36 [] [i, r, g]) (q0 : h ≤ 2) (q1 : 2 ≤ h) (q2 : 0 ≤ i) (q3 : i + 1 ≤ n) (q4 : 0 ≤ s) : rf_XP xt 40 [] [9, r, G, s, i] := by
  have a0 : h = 2 → ∀ j : Nat, (j : Int) < n → rf_dc j g = rf_dc (60 * s.toNat + j) G := p0
  have b0 : r = rf_dc i.toNat g := p1.2
  show r = rf_dc (60 * s + i).toNat G
  rw [b0, a0 (by omega) i.toNat (by omega)]
  congr 1
  omega
theorem hl_85 {e q G s x i : Int} (p0 : rf_XP xt 36 [] [e, q, G]) (p1 : rf_XP xt 11 [] [60, s, x]) (p2 : rf_XP xt 10 [] [x, i, e])  : rf_XP xt 40 [] [9, q, G, s, i] := by
  have a0 : q = rf_dc e.toNat G := p0.2
  have b0 : x = 60 * s := p1
  have c0 : e = x + i := p2
  show q = rf_dc (60 * s + i).toNat G
  rw [a0, c0, b0]
theorem hl_86 {h n g G s A i v B e w t x : Int} (p0 : rf_XP xt 40 [] [4, h, n, g, G, s]) (p1 : rf_XP xt 31 [] [A, g, i, v]) (p2 : rf_XP xt 31 [] [B, G, e, w]) (p3 : rf_XP xt 11 [] [60, t, x]) (p4 : rf_XP xt 10 [] [x, i, e]) (q0 : s ≤ t) (q1 : t ≤ s) (q2 : v ≤ w) (q3 : w ≤ v) (q4 : 0 ≤ s) (q5 : -9223372036854775808 ≤ v) (q6 : v ≤ 9223372036854775807) (q7 : -9223372036854775808 ≤ w) (q8 : w ≤ 9223372036854775807) : rf_XP xt 40 [] [4, h, n, A, B, s] := by
  have a0 : h = 2 → ∀ j : Nat, (j : Int) < n → rf_dc j g = rf_dc (60 * s.toNat + j) G := p0
  obtain ⟨b0, b1⟩ : 0 ≤ i ∧ A = rf_up i.toNat v g := p1
  obtain ⟨c0, c1⟩ : 0 ≤ e ∧ B = rf_up e.toNat w G := p2
  have d0 : x = 60 * t := p3
  have e0 : e = x + i := p4
  show h = 2 → ∀ j : Nat, (j : Int) < n → rf_dc j A = rf_dc (60 * s.toNat + j) B
  intro hh j hj
  rw [b1, c1, rf_dc_up q5 q6, rf_dc_up q7 q8]
  by_cases h1 : j = i.toNat
  · rw [if_pos h1, if_pos (by omega)]
    omega
  · rw [if_neg h1, if_neg (by omega)]
    exact a0 hh j hj
theorem hl_87 {h n g G s B e w t x i : Int} (p0 : rf_XP xt 40 [] [4, h, n, g, G, s]) (p1 : rf_XP xt 31 [] [B, G, e, w]) (p2 : rf_XP xt 11 [] [60, t, x]) (p3 : rf_XP xt 10 [] [x, i, e]) (q0 : s + 1 ≤ t) (q1 : n ≤ 60) (q2 : 0 ≤ i) (q3 : i ≤ 59) (q4 : 0 ≤ s) (q5 : 0 ≤ t) (q6 : -9223372036854775808 ≤ w) (q7 : w ≤ 9223372036854775807) : rf_XP xt 40 [] [4, h, n, g, B, s] := by
  have a0 : h = 2 → ∀ j : Nat, (j : Int) < n → rf_dc j g = rf_dc (60 * s.toNat + j) G := p0
  obtain ⟨c0, c1⟩ : 0 ≤ e ∧ B = rf_up e.toNat w G := p1
  have d0 : x = 60 * t := p2
  have e0 : e = x + i := p3
  show h = 2 → ∀ j : Nat, (j : Int) < n → rf_dc j g = rf_dc (60 * s.toNat + j) B
  intro hh j hj
  rw [c1, rf_dc_up q6 q7, if_neg (by omega)]
  exact a0 hh j hj
theorem hl_88 {h n g G s B e w t x i : Int} (p0 : rf_XP xt 40 [] [4, h, n, g, G, s]) (p1 : rf_XP xt 31 [] [B, G, e, w]) (p2 : rf_XP xt 11 [] [60, t, x]) (p3 : rf_XP xt 10 [] [x, i, e]) (q0 : t + 1 ≤ s) (q1 : n ≤ 60) (q2 : 0 ≤ i) (q3 : i ≤ 59) (q4 : 0 ≤ s) (q5 : 0 ≤ t) (q6 : -9223372036854775808 ≤ w) (q7 : w ≤ 9223372036854775807) : rf_XP xt 40 [] [4, h, n, g, B, s] := by
  have a0 : h = 2 → ∀ j : Nat, (j : Int) < n → rf_dc j g = rf_dc (60 * s.toNat + j) G := p0
  obtain ⟨c0, c1⟩ : 0 ≤ e ∧ B = rf_up e.toNat w G := p1
  have d0 : x = 60 * t := p2
  have e0 : e = x + i := p3
  show h = 2 → ∀ j : Nat, (j : Int) < n → rf_dc j g = rf_dc (60 * s.toNat + j) B
  intro hh j hj
  rw [c1, rf_dc_up q6 q7, if_neg (by omega)]
  exact a0 hh j hj
theorem hl_89 {h n g G s : Int}  (q0 : h ≤ 1) : rf_XP xt 40 [] [4, h, n, g, G, s] := by
  show h = 2 → ∀ j : Nat, (j : Int) < n → rf_dc j g = rf_dc (60 * s.toNat + j) G
  intro hh
  exact absurd hh (by omega)
theorem hl_90 {h n g G s a i b c x : Int} (p0 : rf_XP xt 40 [] [5, g, a, i]) (p1 : rf_XP xt 40 [] [5, G, b, c]) (p2 : rf_XP xt 11 [] [60, s, x]) (q0 : a ≤ 0) (q1 : n ≤ i) (q2 : b ≤ x) (q3 : x + 60 ≤ c) (q4 : n ≤ 60) (q5 : 0 ≤ s) : rf_XP xt 40 [] [4, h, n, g, G, s] := by
  have a0 : ∀ j : Nat, a ≤ (j : Int) → (j : Int) < i → rf_dc j g = 0 := p0
  have b0 : ∀ j : Nat, b ≤ (j : Int) → (j : Int) < c → rf_dc j G = 0 := p1
  have d0 : x = 60 * s := p2
  show h = 2 → ∀ j : Nat, (j : Int) < n → rf_dc j g = rf_dc (60 * s.toNat + j) G
  intro _ j hj
  rw [a0 j (by omega) (by omega), b0 (60 * s.toNat + j) (by omega) (by omega)]
theorem hl_91 {h n g G s X a b x : Int} (p0 : rf_XP xt 40 [] [4, h, n, g, G, s]) (p1 : rf_XP xt 40 [] [7, X, G, a, b]) (p2 : rf_XP xt 11 [] [60, s, x]) (q0 : x + 60 ≤ a) (q1 : n ≤ 60) (q2 : 0 ≤ s) : rf_XP xt 40 [] [4, h, n, g, X, s] := by
  have a0 : h = 2 → ∀ j : Nat, (j : Int) < n → rf_dc j g = rf_dc (60 * s.toNat + j) G := p0
  have b0 : ∀ j : Nat, ¬ (a ≤ (j : Int) ∧ (j : Int) < b) → rf_dc j X = rf_dc j G := p1
  have d0 : x = 60 * s := p2
  show h = 2 → ∀ j : Nat, (j : Int) < n → rf_dc j g = rf_dc (60 * s.toNat + j) X
  intro hh j hj
  rw [b0 (60 * s.toNat + j) (by omega)]
  exact a0 hh j hj
theorem hl_92 {h n g G s X a b x : Int} (p0 : rf_XP xt 40 [] [4, h, n, g, G, s]) (p1 : rf_XP xt 40 [] [7, X, G, a, b]) (p2 : rf_XP xt 11 [] [60, s, x]) (q0 : b ≤ x) (q1 : n ≤ 60) (q2 : 0 ≤ s) : rf_XP xt 40 [] [4, h, n, g, X, s] := by
  have a0 : h = 2 → ∀ j : Nat, (j : Int) < n → rf_dc j g = rf_dc (60 * s.toNat + j) G := p0
  have b0 : ∀ j : Nat, ¬ (a ≤ (j : Int) ∧ (j : Int) < b) → rf_dc j X = rf_dc j G := p1
  have d0 : x = 60 * s := p2
  show h = 2 → ∀ j : Nat, (j : Int) < n → rf_dc j g = rf_dc (60 * s.toNat + j) X
  intro hh j hj
  rw [b0 (60 * s.toNat + j) (by omega)]
  exact a0 hh j hj
theorem hl_93 {A g H d i n z l G s : Int} (p0 : rf_XP xt 40 [] [6, A, g, H, d, i, n]) (p1 : rf_XP xt 40 [] [4, z, l, H, G, s]) (p2 : rf_XP xt 9 [] [i, n, l]) (q0 : z ≤ 2) (q1 : 2 ≤ z) (q2 : 0 ≤ i) (q3 : 0 ≤ s) : rf_XP xt 40 [] [10, A, g, G, d, s, i, n] := by
  have a0 : ∀ j : Nat, j ≤ 374 → rf_dc j A = if d ≤ (j : Int) ∧ (j : Int) < d + n then rf_dc (i + ((j : Int) - d)).toNat H else rf_dc j g := p0
  have b0 : z = 2 → ∀ j : Nat, (j : Int) < l → rf_dc j H = rf_dc (60 * s.toNat + j) G := p1
  have c0 : i + n ≤ l := p2
  show ∀ j : Nat, j ≤ 374 → rf_dc j A = if d ≤ (j : Int) ∧ (j : Int) < d + n then rf_dc (60 * s + i + ((j : Int) - d)).toNat G else rf_dc j g
  intro j hj
  rw [a0 j hj]
  by_cases h1 : d ≤ (j : Int) ∧ (j : Int) < d + n
  · rw [if_pos h1, if_pos h1, b0 (by omega) (i + ((j : Int) - d)).toNat (by omega)]
    congr 1
    omega
  · rw [if_neg h1, if_neg h1]
theorem hl_94 {A g G d s i n S T e k X f m x y t h l u : Int} (p0 : rf_XP xt 40 [] [10, A, g, G, d, s, i, n]) (p1 : rf_XP xt 40 [] [6, S, T, G, 0, e, k]) (p2 : rf_XP xt 40 [] [6, X, G, S, f, 0, m]) (p3 : rf_XP xt 11 [] [60, s, x]) (p4 : rf_XP xt 10 [] [x, i, e]) (p5 : rf_XP xt 11 [] [60, t, y]) (p6 : rf_XP xt 10 [] [y, d, f]) (p7 : rf_XP xt 40 [] [4, h, l, g, G, u]) (q0 : n ≤ k) (q1 : k ≤ n) (q2 : n ≤ m) (q3 : m ≤ n) (q4 : t ≤ u) (q5 : u ≤ t) (q6 : 0 ≤ d) (q7 : 0 ≤ n) (q8 : 0 ≤ u) (q9 : u ≤ 5) (q10 : l ≤ 60) (q11 : 0 ≤ s) (q12 : 0 ≤ i) : rf_XP xt 40 [] [4, h, l, A, X, u] := by
  have a0 : ∀ j : Nat, j ≤ 374 → rf_dc j A = if d ≤ (j : Int) ∧ (j : Int) < d + n then rf_dc (60 * s + i + ((j : Int) - d)).toNat G else rf_dc j g := p0
  have b0 : ∀ j : Nat, j ≤ 374 → rf_dc j S = if (0 : Int) ≤ (j : Int) ∧ (j : Int) < (0 : Int) + k then rf_dc (e + ((j : Int) - (0 : Int))).toNat G else rf_dc j T := p1
  have c0 : ∀ j : Nat, j ≤ 374 → rf_dc j X = if f ≤ (j : Int) ∧ (j : Int) < f + m then rf_dc ((0 : Int) + ((j : Int) - f)).toNat S else rf_dc j G := p2
  have d0 : x = 60 * s := p3
  have e0 : e = x + i := p4
  have f0 : y = 60 * t := p5
  have g0 : f = y + d := p6
  have h0 : h = 2 → ∀ j : Nat, (j : Int) < l → rf_dc j g = rf_dc (60 * u.toNat + j) G := p7
  show h = 2 → ∀ j : Nat, (j : Int) < l → rf_dc j A = rf_dc (60 * u.toNat + j) X
  intro hh j hj
  rw [a0 j (by omega), c0 (60 * u.toNat + j) (by omega)]
  by_cases h1 : d ≤ (j : Int) ∧ (j : Int) < d + n
  · rw [if_pos h1, if_pos (by omega), b0 ((0 : Int) + (((60 * u.toNat + j : Nat) : Int) - f)).toNat (by omega), if_pos (by omega)]
    congr 1
    omega
  · rw [if_neg h1, if_neg (by omega)]
    exact h0 hh j hj
theorem hl_95 {h l g G u X S f m t y d n L : Int} (p0 : rf_XP xt 40 [] [4, h, l, g, G, u]) (p1 : rf_XP xt 40 [] [6, X, G, S, f, 0, m]) (p2 : rf_XP xt 11 [] [60, t, y]) (p3 : rf_XP xt 10 [] [y, d, f]) (p4 : rf_XP xt 9 [] [d, n, L]) (q0 : u + 1 ≤ t) (q1 : m ≤ n) (q2 : L ≤ 60) (q3 : l ≤ 60) (q4 : 0 ≤ d) (q5 : 0 ≤ u) (q6 : u ≤ 5) (q7 : 0 ≤ t) : rf_XP xt 40 [] [4, h, l, g, X, u] := by
  have a0 : h = 2 → ∀ j : Nat, (j : Int) < l → rf_dc j g = rf_dc (60 * u.toNat + j) G := p0
  have c0 : ∀ j : Nat, j ≤ 374 → rf_dc j X = if f ≤ (j : Int) ∧ (j : Int) < f + m then rf_dc ((0 : Int) + ((j : Int) - f)).toNat S else rf_dc j G := p1
  have d0 : y = 60 * t := p2
  have e0 : f = y + d := p3
  have f0 : d + n ≤ L := p4
  show h = 2 → ∀ j : Nat, (j : Int) < l → rf_dc j g = rf_dc (60 * u.toNat + j) X
  intro hh j hj
  rw [c0 (60 * u.toNat + j) (by omega), if_neg (by omega)]
  exact a0 hh j hj
theorem hl_96 {h l g G u X S f m t y d n L : Int} (p0 : rf_XP xt 40 [] [4, h, l, g, G, u]) (p1 : rf_XP xt 40 [] [6, X, G, S, f, 0, m]) (p2 : rf_XP xt 11 [] [60, t, y]) (p3 : rf_XP xt 10 [] [y, d, f]) (p4 : rf_XP xt 9 [] [d, n, L]) (q0 : t + 1 ≤ u) (q1 : m ≤ n) (q2 : L ≤ 60) (q3 : l ≤ 60) (q4 : 0 ≤ d) (q5 : 0 ≤ u) (q6 : u ≤ 5) (q7 : 0 ≤ t) : rf_XP xt 40 [] [4, h, l, g, X, u] := by
  have a0 : h = 2 → ∀ j : Nat, (j : Int) < l → rf_dc j g = rf_dc (60 * u.toNat + j) G := p0
  have c0 : ∀ j : Nat, j ≤ 374 → rf_dc j X = if f ≤ (j : Int) ∧ (j : Int) < f + m then rf_dc ((0 : Int) + ((j : Int) - f)).toNat S else rf_dc j G := p1
  have d0 : y = 60 * t := p2
  have e0 : f = y + d := p3
  have f0 : d + n ≤ L := p4
  show h = 2 → ∀ j : Nat, (j : Int) < l → rf_dc j g = rf_dc (60 * u.toNat + j) X
  intro hh j hj
  rw [c0 (60 * u.toNat + j) (by omega), if_neg (by omega)]
  exact a0 hh j hj
theorem hl_97 {a r : Int} (p0 : rf_XP xt 8 [] [-2, a, r]) (q0 : 0 ≤ a) (q1 : a ≤ 4) : (a ≤ 0 ∧ 0 ≤ a ∧ r ≤ -2 ∧ -2 ≤ r) ∨ (a ≤ 1 ∧ 1 ≤ a ∧ r ≤ -3 ∧ -3 ≤ r) ∨ (a ≤ 2 ∧ 2 ≤ a ∧ r ≤ -4 ∧ -4 ≤ r) ∨ (a ≤ 3 ∧ 3 ≤ a ∧ r ≤ -5 ∧ -5 ≤ r) ∨ (a ≤ 4 ∧ 4 ≤ a ∧ r ≤ -6 ∧ -6 ≤ r) := by
  have e : r = -2 - a := p0
  omega
theorem hl_98 {a b : Int}  (q0 : a ≤ b) : a ≤ b := by
  exact q0
theorem hl_99 {a b r c d q : Int} (p0 : rf_XP xt 10 [] [a, b, r]) (p1 : rf_XP xt 10 [] [c, d, q]) (q0 : a ≤ c) (q1 : c ≤ a) (q2 : b ≤ d) (q3 : d ≤ b) : r ≤ q ∧ q ≤ r := by
  have e1 : r = a + b := p0
  have e2 : q = c + d := p1
  omega
theorem hl_100 {i : Int}   : rf_XP xt 40 [] [13, i, i, 0] := by
  show i = i + 3 * 0
  omega
theorem hl_101 {a i c : Int} (p0 : rf_XP xt 40 [] [13, a, i, c])  : rf_XP xt 40 [] [13, a + 3, i, c + 1] := by
  have e : a = i + 3 * c := p0
  show a + 3 = i + 3 * (c + 1)
  omega
theorem hl_102 {a i k m : Int} (p0 : rf_XP xt 11 [] [3, k, m]) (p1 : rf_XP xt 10 [] [i, m, a])  : rf_XP xt 40 [] [13, a, i, k] := by
  have e1 : m = 3 * k := p0
  have e2 : a = i + m := p1
  show a = i + 3 * k
  omega
theorem hl_103 {i m a : Int} (p0 : rf_XP xt 35 [] [16, i, m, a]) (q0 : -2147483648 ≤ i) (q1 : i ≤ 2147483647) (q2 : -2147483648 ≤ m) (q3 : m ≤ 2147483647) : rf_XP xt 10 [] [i, m, a] := by
  have e : a = (Int64.ofInt i + Int64.ofInt m).toInt := p0
  show a = i + m
  rw [e, Int64.toInt_add, Int64.toInt_ofInt_of_le (by omega) (by omega), Int64.toInt_ofInt_of_le (by omega) (by omega)]
  exact rf_bm64 (by omega) (by omega)
theorem hl_104 {a : Int}   : rf_XP xt 10 [] [a, 0, a] := by
  show a = a + 0
  omega
theorem hl_105 {a b r : Int} (p0 : rf_XP xt 10 [] [a, b, r])  : rf_XP xt 10 [] [a, b + 1, r + 1] := by
  have e : r = a + b := p0
  show r + 1 = a + (b + 1)
  omega
theorem hl_106 {G s i n l g : Int}  (q0 : 0 ≤ n) : rf_XP xt 40 [] [11, 0, G, s, i, n, l, g] := by
  show 0 ≤ (0 : Int) ∧ 0 ≤ n ∧ ∀ k : Int, 0 ≤ k → k < 0 → rf_gok G s i l g k
  exact ⟨by omega, by omega, fun k h1 h2 => absurd h1 (by omega)⟩
theorem hl_107 {c G s i n l g a r1 t1 r2 t2 r3 t3 u : Int} (p0 : rf_XP xt 40 [] [11, c, G, s, i, n, l, g]) (p1 : rf_XP xt 40 [] [13, a, i, c]) (p2 : rf_XP xt 40 [] [9, r1, G, s, a]) (p3 : rf_XP xt 35 [] [5, r1, 0, t1]) (p4 : rf_XP xt 40 [] [9, r2, G, s, a + 1]) (p5 : rf_XP xt 35 [] [5, r2, 0, t2]) (p6 : rf_XP xt 40 [] [9, r3, G, s, a + 2]) (p7 : rf_XP xt 35 [] [5, r3, 0, t3]) (p8 : rf_XP xt 10 [] [g, c, u]) (q0 : 0 ≤ a) (q1 : a + 3 ≤ l) (q2 : c + 1 ≤ n) (q3 : u ≤ 6) (q4 : 0 ≤ t1) (q5 : t1 ≤ 9) (q6 : 0 ≤ t2) (q7 : t2 ≤ 50) (q8 : 0 ≤ t3) (q9 : t3 ≤ 3) : rf_XP xt 40 [] [11, c + 1, G, s, i, n, l, g] := by
  obtain ⟨a0, a1, a2⟩ : 0 ≤ c ∧ c ≤ n ∧ ∀ k : Int, 0 ≤ k → k < c → rf_gok G s i l g k := p0
  have b0 : a = i + 3 * c := p1
  have c1 : r1 = rf_dc (60 * s + a).toNat G := p2
  have d1 : t1 = rf_wop 5 r1 0 := p3
  have c2 : r2 = rf_dc (60 * s + (a + 1)).toNat G := p4
  have d2 : t2 = rf_wop 5 r2 0 := p5
  have c3 : r3 = rf_dc (60 * s + (a + 2)).toNat G := p6
  have d3 : t3 = rf_wop 5 r3 0 := p7
  have e0 : u = g + c := p8
  show 0 ≤ (c + 1) ∧ (c + 1) ≤ n ∧ ∀ k : Int, 0 ≤ k → k < c + 1 → rf_gok G s i l g k
  refine ⟨by omega, by omega, fun k h1 h2 => ?_⟩
  by_cases hk : k = c
  · rw [hk]
    unfold rf_gok
    rw [show 60 * s + i + 3 * c = 60 * s + a by omega, show 60 * s + a + 1 = 60 * s + (a + 1) by omega, show 60 * s + a + 2 = 60 * s + (a + 2) by omega, ← c1, ← c2, ← c3, ← d1, ← d2, ← d3]
    exact ⟨by omega, by omega, by omega, ⟨by omega, by omega⟩, ⟨by omega, by omega⟩, ⟨by omega, by omega⟩⟩
  · exact a2 k h1 (by omega)
theorem hl_108 {c G s i n l g : Int}  (q0 : c ≤ n) (q1 : n ≤ c) : rf_XP xt 40 [] [12, c, G, s, i, n, l, g] := by
  show c = n ∨ ¬ rf_gok G s i l g c
  exact Or.inl (by omega)
theorem hl_109 {c G s i n l g u : Int} (p0 : rf_XP xt 10 [] [g, c, u]) (q0 : 7 ≤ u) : rf_XP xt 40 [] [12, c, G, s, i, n, l, g] := by
  have e : u = g + c := p0
  show c = n ∨ ¬ rf_gok G s i l g c
  refine Or.inr (fun h9 => ?_)
  have := h9.2.2.1
  omega
theorem hl_110 {c G s i n l g a : Int} (p0 : rf_XP xt 40 [] [13, a, i, c]) (q0 : a ≤ -1) : rf_XP xt 40 [] [12, c, G, s, i, n, l, g] := by
  have e : a = i + 3 * c := p0
  show c = n ∨ ¬ rf_gok G s i l g c
  refine Or.inr (fun h9 => ?_)
  have := h9.1
  omega
theorem hl_111 {c G s i n l g a : Int} (p0 : rf_XP xt 40 [] [13, a, i, c]) (q0 : l ≤ a + 2) : rf_XP xt 40 [] [12, c, G, s, i, n, l, g] := by
  have e : a = i + 3 * c := p0
  show c = n ∨ ¬ rf_gok G s i l g c
  refine Or.inr (fun h9 => ?_)
  have := h9.2.1
  omega
theorem hl_112 {c G s i n l g a r t : Int} (p0 : rf_XP xt 40 [] [13, a, i, c]) (p1 : rf_XP xt 40 [] [9, r, G, s, a]) (p2 : rf_XP xt 35 [] [5, r, 0, t]) (q0 : t ≤ -1) : rf_XP xt 40 [] [12, c, G, s, i, n, l, g] := by
  have e : a = i + 3 * c := p0
  have e1 : r = rf_dc (60 * s + a).toNat G := p1
  have e2 : t = rf_wop 5 r 0 := p2
  show c = n ∨ ¬ rf_gok G s i l g c
  refine Or.inr (fun h9 => ?_)
  have h8 := h9.2.2.2.1
  rw [show 60 * s + i + 3 * c = 60 * s + a by omega, ← e1, ← e2] at h8
  omega
theorem hl_113 {c G s i n l g a r t : Int} (p0 : rf_XP xt 40 [] [13, a, i, c]) (p1 : rf_XP xt 40 [] [9, r, G, s, a]) (p2 : rf_XP xt 35 [] [5, r, 0, t]) (q0 : 10 ≤ t) : rf_XP xt 40 [] [12, c, G, s, i, n, l, g] := by
  have e : a = i + 3 * c := p0
  have e1 : r = rf_dc (60 * s + a).toNat G := p1
  have e2 : t = rf_wop 5 r 0 := p2
  show c = n ∨ ¬ rf_gok G s i l g c
  refine Or.inr (fun h9 => ?_)
  have h8 := h9.2.2.2.1
  rw [show 60 * s + i + 3 * c = 60 * s + a by omega, ← e1, ← e2] at h8
  omega
theorem hl_114 {c G s i n l g a r t : Int} (p0 : rf_XP xt 40 [] [13, a, i, c]) (p1 : rf_XP xt 40 [] [9, r, G, s, a + 1]) (p2 : rf_XP xt 35 [] [5, r, 0, t]) (q0 : t ≤ -1) : rf_XP xt 40 [] [12, c, G, s, i, n, l, g] := by
  have e : a = i + 3 * c := p0
  have e1 : r = rf_dc (60 * s + (a + 1)).toNat G := p1
  have e2 : t = rf_wop 5 r 0 := p2
  show c = n ∨ ¬ rf_gok G s i l g c
  refine Or.inr (fun h9 => ?_)
  have h8 := h9.2.2.2.2.1
  rw [show 60 * s + i + 3 * c + 1 = 60 * s + (a + 1) by omega, ← e1, ← e2] at h8
  omega
theorem hl_115 {c G s i n l g a r t : Int} (p0 : rf_XP xt 40 [] [13, a, i, c]) (p1 : rf_XP xt 40 [] [9, r, G, s, a + 1]) (p2 : rf_XP xt 35 [] [5, r, 0, t]) (q0 : 51 ≤ t) : rf_XP xt 40 [] [12, c, G, s, i, n, l, g] := by
  have e : a = i + 3 * c := p0
  have e1 : r = rf_dc (60 * s + (a + 1)).toNat G := p1
  have e2 : t = rf_wop 5 r 0 := p2
  show c = n ∨ ¬ rf_gok G s i l g c
  refine Or.inr (fun h9 => ?_)
  have h8 := h9.2.2.2.2.1
  rw [show 60 * s + i + 3 * c + 1 = 60 * s + (a + 1) by omega, ← e1, ← e2] at h8
  omega
theorem hl_116 {c G s i n l g a r t : Int} (p0 : rf_XP xt 40 [] [13, a, i, c]) (p1 : rf_XP xt 40 [] [9, r, G, s, a + 2]) (p2 : rf_XP xt 35 [] [5, r, 0, t]) (q0 : t ≤ -1) : rf_XP xt 40 [] [12, c, G, s, i, n, l, g] := by
  have e : a = i + 3 * c := p0
  have e1 : r = rf_dc (60 * s + (a + 2)).toNat G := p1
  have e2 : t = rf_wop 5 r 0 := p2
  show c = n ∨ ¬ rf_gok G s i l g c
  refine Or.inr (fun h9 => ?_)
  have h8 := h9.2.2.2.2.2
  rw [show 60 * s + i + 3 * c + 2 = 60 * s + (a + 2) by omega, ← e1, ← e2] at h8
  omega
theorem hl_117 {c G s i n l g a r t : Int} (p0 : rf_XP xt 40 [] [13, a, i, c]) (p1 : rf_XP xt 40 [] [9, r, G, s, a + 2]) (p2 : rf_XP xt 35 [] [5, r, 0, t]) (q0 : 4 ≤ t) : rf_XP xt 40 [] [12, c, G, s, i, n, l, g] := by
  have e : a = i + 3 * c := p0
  have e1 : r = rf_dc (60 * s + (a + 2)).toNat G := p1
  have e2 : t = rf_wop 5 r 0 := p2
  show c = n ∨ ¬ rf_gok G s i l g c
  refine Or.inr (fun h9 => ?_)
  have h8 := h9.2.2.2.2.2
  rw [show 60 * s + i + 3 * c + 2 = 60 * s + (a + 2) by omega, ← e1, ← e2] at h8
  omega
theorem hl_118 {c G s i n l g t : Int} (p0 : rf_XP xt 40 [] [11, c, G, s, i, n, l, g]) (q0 : s ≤ t) (q1 : t ≤ s) : rf_XP xt 40 [] [11, c, G, t, i, n, l, g] := by
  rw [show t = s by omega]
  exact p0
theorem hl_119 {c G s i n l g t : Int} (p0 : rf_XP xt 40 [] [12, c, G, s, i, n, l, g]) (q0 : s ≤ t) (q1 : t ≤ s) : rf_XP xt 40 [] [12, c, G, t, i, n, l, g] := by
  rw [show t = s by omega]
  exact p0
theorem hl_120 {c G s i n l g d t j m k h : Int} (p0 : rf_XP xt 40 [] [11, c, G, s, i, n, l, g]) (p1 : rf_XP xt 40 [] [12, c, G, s, i, n, l, g]) (p2 : rf_XP xt 40 [] [11, d, G, t, j, m, k, h]) (p3 : rf_XP xt 40 [] [12, d, G, t, j, m, k, h]) (q0 : s ≤ t) (q1 : t ≤ s) (q2 : i ≤ j) (q3 : j ≤ i) (q4 : n ≤ m) (q5 : m ≤ n) (q6 : l ≤ k) (q7 : k ≤ l) (q8 : g ≤ h) (q9 : h ≤ g) : c ≤ d ∧ d ≤ c := by
  obtain ⟨a0, a1, a2⟩ : 0 ≤ c ∧ c ≤ n ∧ ∀ k : Int, 0 ≤ k → k < c → rf_gok G s i l g k := p0
  have b0 : c = n ∨ ¬ rf_gok G s i l g c := p1
  obtain ⟨c0, c1, c2⟩ : 0 ≤ d ∧ d ≤ m ∧ ∀ z : Int, 0 ≤ z → z < d → rf_gok G t j k h z := p2
  have d0 : d = m ∨ ¬ rf_gok G t j k h d := p3
  rw [show t = s by omega, show j = i by omega, show k = l by omega, show h = g by omega] at c2 d0
  by_cases h1 : c < d
  · rcases b0 with b0 | b0
    · omega
    · exact absurd (c2 c a0 h1) b0
  · by_cases h2 : d < c
    · rcases d0 with d0 | d0
      · omega
      · exact absurd (a2 d c0 h2) d0
    · omega
theorem hl_121 {e q G s x i f : Int} (p0 : rf_XP xt 36 [] [f, q, G]) (p1 : rf_XP xt 11 [] [60, s, x]) (p2 : rf_XP xt 10 [] [x, i, e]) (q0 : f ≤ e + 1) (q1 : e + 1 ≤ f) : rf_XP xt 40 [] [9, q, G, s, i + 1] := by
  have a0 : q = rf_dc f.toNat G := p0.2
  have b0 : x = 60 * s := p1
  have c0 : e = x + i := p2
  show q = rf_dc (60 * s + (i + 1)).toNat G
  rw [a0]
  congr 1
  omega
theorem hl_122 {e q G s x i f : Int} (p0 : rf_XP xt 36 [] [f, q, G]) (p1 : rf_XP xt 11 [] [60, s, x]) (p2 : rf_XP xt 10 [] [x, i, e]) (q0 : f ≤ e + 2) (q1 : e + 2 ≤ f) : rf_XP xt 40 [] [9, q, G, s, i + 2] := by
  have a0 : q = rf_dc f.toNat G := p0.2
  have b0 : x = 60 * s := p1
  have c0 : e = x + i := p2
  show q = rf_dc (60 * s + (i + 2)).toNat G
  rw [a0]
  congr 1
  omega
theorem hl_123 {h i1 v1 g : Int} (p0 : rf_XP xt 41 [] [h, i1, v1, g]) (q0 : i1 ≤ 0) (q1 : 0 ≤ i1) (q2 : -9223372036854775808 ≤ v1) (q3 : v1 ≤ 9223372036854775807) : rf_XP xt 36 [] [0, v1, h] := by
  have e : h = rf_up i1.toNat v1 g := p0
  refine ⟨by omega, ?_⟩
  show v1 = rf_dc (0 : Int).toNat h
  rw [e, rf_dc_up q2 q3, if_pos (by omega)]
theorem hl_124 {h i1 v1 i2 v2 g : Int} (p0 : rf_XP xt 41 [] [h, i1, v1, i2, v2, g]) (q0 : 1 ≤ i1) (q1 : i2 ≤ 0) (q2 : 0 ≤ i2) (q3 : -9223372036854775808 ≤ v1) (q4 : v1 ≤ 9223372036854775807) (q5 : -9223372036854775808 ≤ v2) (q6 : v2 ≤ 9223372036854775807) : rf_XP xt 36 [] [0, v2, h] := by
  have e : h = rf_up i1.toNat v1 (rf_up i2.toNat v2 g) := p0
  refine ⟨by omega, ?_⟩
  show v2 = rf_dc (0 : Int).toNat h
  rw [e, rf_dc_up q3 q4, if_neg (by omega), rf_dc_up q5 q6, if_pos (by omega)]
theorem hl_125 {h i1 v1 i2 v2 i3 v3 g : Int} (p0 : rf_XP xt 41 [] [h, i1, v1, i2, v2, i3, v3, g]) (q0 : 1 ≤ i1) (q1 : 1 ≤ i2) (q2 : i3 ≤ 0) (q3 : 0 ≤ i3) (q4 : -9223372036854775808 ≤ v1) (q5 : v1 ≤ 9223372036854775807) (q6 : -9223372036854775808 ≤ v2) (q7 : v2 ≤ 9223372036854775807) (q8 : -9223372036854775808 ≤ v3) (q9 : v3 ≤ 9223372036854775807) : rf_XP xt 36 [] [0, v3, h] := by
  have e : h = rf_up i1.toNat v1 (rf_up i2.toNat v2 (rf_up i3.toNat v3 g)) := p0
  refine ⟨by omega, ?_⟩
  show v3 = rf_dc (0 : Int).toNat h
  rw [e, rf_dc_up q4 q5, if_neg (by omega), rf_dc_up q6 q7, if_neg (by omega), rf_dc_up q8 q9, if_pos (by omega)]
theorem hl_126 {h i1 v1 i2 v2 i3 v3 i4 v4 g : Int} (p0 : rf_XP xt 41 [] [h, i1, v1, i2, v2, i3, v3, i4, v4, g]) (q0 : 1 ≤ i1) (q1 : 1 ≤ i2) (q2 : 1 ≤ i3) (q3 : i4 ≤ 0) (q4 : 0 ≤ i4) (q5 : -9223372036854775808 ≤ v1) (q6 : v1 ≤ 9223372036854775807) (q7 : -9223372036854775808 ≤ v2) (q8 : v2 ≤ 9223372036854775807) (q9 : -9223372036854775808 ≤ v3) (q10 : v3 ≤ 9223372036854775807) (q11 : -9223372036854775808 ≤ v4) (q12 : v4 ≤ 9223372036854775807) : rf_XP xt 36 [] [0, v4, h] := by
  have e : h = rf_up i1.toNat v1 (rf_up i2.toNat v2 (rf_up i3.toNat v3 (rf_up i4.toNat v4 g))) := p0
  refine ⟨by omega, ?_⟩
  show v4 = rf_dc (0 : Int).toNat h
  rw [e, rf_dc_up q5 q6, if_neg (by omega), rf_dc_up q7 q8, if_neg (by omega), rf_dc_up q9 q10, if_neg (by omega), rf_dc_up q11 q12, if_pos (by omega)]
theorem hl_127   : rf_XP xt 36 [] [0, 0, 0] := by
  exact ⟨by decide, rfl⟩
end
