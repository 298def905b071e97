/-! CLAUSES of the two objects: what each rests on -/
theorem rf_BIG_eq : rf_BIG + 1 = rf_big 375 := by decide +kernel
theorem hc_some {xt : Nat → Nat} {k : Nat} {o : Option va_E} {xs : List Int} (h : rf_XP xt k [o] xs) : ∃ e, o = some e := rf_XP_some h o (by simp)
section
variable {xt : Nat → Nat} {o : Option va_E} {i v g h b so n GH GZ s X Y t r : Int}
theorem hl_0 (p0 : rf_XP xt 30 [o] [i, v, g]) (q0 : 0 ≤ g) (q1 : g ≤ rf_BIG) (q2 : 0 ≤ i) (q3 : i ≤ 374) : ∃ h, (0 ≤ h ∧ h ≤ rf_BIG) ∧ rf_XP xt 30 [o] [h] ∧ rf_XP xt 31 [] [h, g, i, v] := by
  obtain ⟨e, rfl⟩ := hc_some p0
  have hb := rf_up_big 375 i.toNat v g (by omega) q0 (by rw [← rf_BIG_eq]; omega)
  rw [← rf_BIG_eq] at hb
  exact ⟨rf_up i.toNat v g, ⟨hb.1, by omega⟩, p0, q2, rfl⟩
theorem hl_1 (p0 : rf_XP xt 40 [] [0, h, b, so, n, GH, GZ, s]) (p1 : rf_XP xt 31 [] [X, GH, t, v]) (q0 : 0 ≤ s) (q1 : 0 ≤ t) (q2 : s + 1 ≤ t) (q3 : -9223372036854775808 ≤ v) (q4 : v ≤ 9223372036854775807) : rf_XP xt 40 [] [0, h, b, so, n, X, GZ, s] := by
  have a : rf_shl h b so n (rf_dc s.toNat GH) (rf_dc s.toNat GZ) := p0
  show rf_shl h b so n (rf_dc s.toNat X) (rf_dc s.toNat GZ)
  rw [show X = rf_up t.toNat v GH from p1.2, rf_dc_up q3 q4, if_neg (by omega)]
  exact a
theorem hl_2 (p0 : rf_XP xt 40 [] [0, h, b, so, n, GH, GZ, s]) (p1 : rf_XP xt 31 [] [X, GH, t, v]) (q0 : 0 ≤ s) (q1 : 0 ≤ t) (q2 : t + 1 ≤ s) (q3 : -9223372036854775808 ≤ v) (q4 : v ≤ 9223372036854775807) : rf_XP xt 40 [] [0, h, b, so, n, X, GZ, s] := by
  have a : rf_shl h b so n (rf_dc s.toNat GH) (rf_dc s.toNat GZ) := p0
  show rf_shl h b so n (rf_dc s.toNat X) (rf_dc s.toNat GZ)
  rw [show X = rf_up t.toNat v GH from p1.2, rf_dc_up q3 q4, if_neg (by omega)]
  exact a
theorem hl_3 (p0 : rf_XP xt 40 [] [0, h, b, so, n, GH, GZ, s]) (p1 : rf_XP xt 31 [] [X, GZ, t, v]) (q0 : 0 ≤ s) (q1 : 0 ≤ t) (q2 : s + 1 ≤ t) (q3 : -9223372036854775808 ≤ v) (q4 : v ≤ 9223372036854775807) : rf_XP xt 40 [] [0, h, b, so, n, GH, X, s] := by
  have a : rf_shl h b so n (rf_dc s.toNat GH) (rf_dc s.toNat GZ) := p0
  show rf_shl h b so n (rf_dc s.toNat GH) (rf_dc s.toNat X)
  rw [show X = rf_up t.toNat v GZ from p1.2, rf_dc_up q3 q4, if_neg (by omega)]
  exact a
theorem hl_4 (p0 : rf_XP xt 40 [] [0, h, b, so, n, GH, GZ, s]) (p1 : rf_XP xt 31 [] [X, GZ, t, v]) (q0 : 0 ≤ s) (q1 : 0 ≤ t) (q2 : t + 1 ≤ s) (q3 : -9223372036854775808 ≤ v) (q4 : v ≤ 9223372036854775807) : rf_XP xt 40 [] [0, h, b, so, n, GH, X, s] := by
  have a : rf_shl h b so n (rf_dc s.toNat GH) (rf_dc s.toNat GZ) := p0
  show rf_shl h b so n (rf_dc s.toNat GH) (rf_dc s.toNat X)
  rw [show X = rf_up t.toNat v GZ from p1.2, rf_dc_up q3 q4, if_neg (by omega)]
  exact a
theorem hl_5 (p0 : rf_XP xt 31 [] [X, GH, s, r]) (p1 : rf_XP xt 31 [] [Y, GZ, s, n]) (p2 : rf_XP xt 8 [] [-2, so, r]) (q0 : 0 ≤ s) (q1 : h ≤ 2) (q2 : 2 ≤ h) (q3 : 0 ≤ so) (q4 : so ≤ 4) (q5 : -9223372036854775808 ≤ n) (q6 : n ≤ 9223372036854775807) : rf_XP xt 40 [] [0, h, b, so, n, X, Y, s] := by
  have hr : r = -2 - so := p2
  show rf_shl h b so n (rf_dc s.toNat X) (rf_dc s.toNat Y)
  rw [show X = rf_up s.toNat r GH from p0.2, show Y = rf_up s.toNat n GZ from p1.2, rf_dc_up (by omega) (by omega), rf_dc_up q5 q6, if_pos rfl, if_pos rfl]
  exact Or.inr (Or.inr ⟨by omega, q3, q4, hr, rfl⟩)
theorem hl_6 (p0 : rf_XP xt 31 [] [X, GH, s, b]) (q0 : 0 ≤ s) (q1 : h ≤ 1) (q2 : 1 ≤ h) (q3 : 0 ≤ b) (q4 : -9223372036854775808 ≤ b) (q5 : b ≤ 9223372036854775807) : rf_XP xt 40 [] [0, h, b, so, n, X, GZ, s] := by
  show rf_shl h b so n (rf_dc s.toNat X) (rf_dc s.toNat GZ)
  rw [show X = rf_up s.toNat b GH from p0.2, rf_dc_up q4 q5, if_pos rfl]
  exact Or.inr (Or.inl ⟨by omega, q3, rfl⟩)
theorem hl_7 (p0 : rf_XP xt 31 [] [X, GH, s, -1]) (q0 : 0 ≤ s) (q1 : h ≤ 0) (q2 : 0 ≤ h) : rf_XP xt 40 [] [0, h, b, so, n, X, GZ, s] := by
  show rf_shl h b so n (rf_dc s.toNat X) (rf_dc s.toNat GZ)
  rw [show X = rf_up s.toNat (-1) GH from p0.2, rf_dc_up (by omega) (by omega), if_pos rfl]
  exact Or.inl ⟨by omega, rfl⟩
theorem hl_8 (p0 : rf_XP xt 40 [] [0, h, b, so, n, GH, GZ, s]) (q0 : 0 ≤ s) : (rf_XP xt 36 [] [s, -1, GH] ∧ h ≤ 0 ∧ 0 ≤ h) ∨ (rf_XP xt 36 [] [s, b, GH] ∧ h ≤ 1 ∧ 1 ≤ h ∧ 0 ≤ b) ∨ ∃ r, (-6 ≤ r ∧ r ≤ -2) ∧ rf_XP xt 36 [] [s, r, GH] ∧ rf_XP xt 36 [] [s, n, GZ] ∧ rf_XP xt 8 [] [-2, so, r] ∧ h ≤ 2 ∧ 2 ≤ h ∧ 0 ≤ so ∧ so ≤ 4 := by
  have a : rf_shl h b so n (rf_dc s.toNat GH) (rf_dc s.toNat GZ) := p0
  rcases a with ⟨a1, a2⟩ | ⟨a1, a2, a3⟩ | ⟨a1, a2, a3, a4, a5⟩
  · exact Or.inl ⟨⟨q0, a2.symm⟩, by omega, by omega⟩
  · exact Or.inr (Or.inl ⟨⟨q0, a3.symm⟩, by omega, by omega, a2⟩)
  · exact Or.inr (Or.inr ⟨-2 - so, ⟨by omega, by omega⟩, ⟨q0, a4.symm⟩, ⟨q0, a5.symm⟩, rfl, by omega, by omega, a2, a3⟩)
theorem hl_9 (p0 : rf_XP xt 30 [o] [5, -1, 4, -1, 3, -1, 2, -1, 1, -1, 0, -1, 0]) : ∃ H, (0 ≤ H ∧ H ≤ rf_BIG) ∧ rf_XP xt 30 [o] [H] ∧ rf_XP xt 36 [] [0, -1, H] ∧ rf_XP xt 36 [] [1, -1, H] ∧ rf_XP xt 36 [] [2, -1, H] ∧ rf_XP xt 36 [] [3, -1, H] ∧ rf_XP xt 36 [] [4, -1, H] ∧ rf_XP xt 36 [] [5, -1, H] := by
  obtain ⟨e, rfl⟩ := hc_some p0
  have h0 : ∀ k : Nat, k < 6 → (-1 : Int) = rf_dc k (rf_chn [5, -1, 4, -1, 3, -1, 2, -1, 1, -1, 0, -1, 0]) := by decide +kernel
  refine ⟨rf_chn [5, -1, 4, -1, 3, -1, 2, -1, 1, -1, 0, -1, 0], by decide +kernel, p0, ⟨by decide, h0 0 (by decide)⟩, ⟨by decide, h0 1 (by decide)⟩, ⟨by decide, h0 2 (by decide)⟩, ⟨by decide, h0 3 (by decide)⟩, ⟨by decide, h0 4 (by decide)⟩, ⟨by decide, h0 5 (by decide)⟩⟩
theorem hl_10 (p0 : rf_XP xt 36 [] [s, -1, GH]) (q0 : 0 ≤ s) (q1 : h ≤ 0) (q2 : 0 ≤ h) : rf_XP xt 40 [] [0, h, b, so, n, GH, GZ, s] := by
  show rf_shl h b so n (rf_dc s.toNat GH) (rf_dc s.toNat GZ)
  exact Or.inl ⟨by omega, p0.2.symm⟩
end
