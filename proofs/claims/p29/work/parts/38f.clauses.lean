/-! CLAUSES: what the printed ones rest on -/
/-! the house's numbers: what the clauses rest on -/
theorem rf_ix01 {n w gs : Int} (h : w = 0 ∨ w = 1) : rf_ix n w gs = if 0 ≤ n ∧ n ≤ 3 then n else -1 := by
  unfold rf_ix
  rw [if_pos h]
theorem rf_ix23 {n w gs : Int} (h : w = 2 ∨ w = 3) : rf_ix n w gs = rf_pr n gs := by
  unfold rf_ix
  rw [if_neg (by omega), if_pos h]
theorem rf_ix45 {n w gs : Int} (h : w = 4 ∨ w = 5) : rf_ix n w gs = if 0 ≤ n ∧ n < gs then n else -1 := by
  unfold rf_ix
  rw [if_neg (by omega), if_neg (by omega), if_pos h]
theorem rf_ix68 {n w gs : Int} (h : w = 6 ∨ w = 7 ∨ w = 8) : rf_ix n w gs = if n = 0 then 0 else -1 := by
  unfold rf_ix
  rw [if_neg (by omega), if_neg (by omega), if_neg (by omega), if_pos h]
theorem rf_ixn {n w gs : Int} (h : w < 0 ∨ 8 < w) : rf_ix n w gs = -1 := by
  unfold rf_ix
  rw [if_neg (by omega), if_neg (by omega), if_neg (by omega), if_neg (by omega)]
theorem rf_pr_ge (n gs : Int) : -1 ≤ rf_pr n gs := by
  unfold rf_pr
  split <;> omega
theorem rf_ix_ge (n w gs : Int) : -1 ≤ rf_ix n w gs := by
  have := rf_pr_ge n gs
  unfold rf_ix
  repeat' split
  all_goals omega
theorem rf_fst_ge (w : Int) : 0 ≤ rf_fst w := by
  unfold rf_fst
  repeat' split
  all_goals omega
theorem rf_pl_ix {n w gs : Int} (h : 0 ≤ rf_pl n w gs) : 0 ≤ rf_ix n w gs ∧ rf_pl n w gs = rf_fst w + rf_ix n w gs := by
  unfold rf_pl at h ⊢
  by_cases hi : 0 ≤ rf_ix n w gs
  · rw [if_pos hi]
    exact ⟨hi, rfl⟩
  · rw [if_neg hi] at h
    omega
theorem rf_pl_w {n w gs : Int} (h : 0 ≤ rf_ix n w gs) : w = 0 ∨ w = 1 ∨ w = 2 ∨ w = 3 ∨ w = 4 ∨ w = 5 ∨ w = 6 ∨ w = 7 ∨ w = 8 := by
  by_cases hw : w < 0 ∨ 8 < w
  · rw [rf_ixn hw] at h
    omega
  · omega
theorem rf_pl_mono {n w g k : Int} (h : g ≤ k) (hp : 0 ≤ rf_pl n w g) : rf_pl n w k = rf_pl n w g := by
  obtain ⟨hi, e⟩ := rf_pl_ix hp
  have key : rf_ix n w k = rf_ix n w g := by
    have hw := rf_pl_w hi
    by_cases h1 : w = 0 ∨ w = 1
    · rw [rf_ix01 h1, rf_ix01 h1]
    · by_cases h2 : w = 2 ∨ w = 3
      · rw [rf_ix23 h2] at hi ⊢
        rw [rf_ix23 h2]
        unfold rf_pr at hi ⊢
        by_cases hc : 0 ≤ n ∧ n / 10 < g ∧ n % 10 ≤ 3
        · rw [if_pos hc, if_pos (by omega)]
        · rw [if_neg hc] at hi
          omega
      · by_cases h3 : w = 4 ∨ w = 5
        · rw [rf_ix45 h3] at hi ⊢
          rw [rf_ix45 h3]
          by_cases hc : 0 ≤ n ∧ n < g
          · rw [if_pos hc, if_pos (by omega)]
          · rw [if_neg hc] at hi
            omega
        · rw [rf_ix68 (by omega), rf_ix68 (by omega)]
  unfold rf_pl
  rw [key]
theorem rf_dc_inj : ∀ {n : Nat} {g h : Int}, 0 ≤ g → g < rf_big n → 0 ≤ h → h < rf_big n → (∀ j : Nat, j < n → rf_dc j g = rf_dc j h) → g = h
  | 0, g, h, g0, g1, h0, h1, _ => by
    simp only [rf_big] at g1 h1
    omega
  | n + 1, g, h, g0, g1, h0, h1, e => by
    have e0 : rf_sd (g % 18446744073709551616) = rf_sd (h % 18446744073709551616) := e 0 (by omega)
    have em : g % 18446744073709551616 = h % 18446744073709551616 := by
      unfold rf_sd at e0
      by_cases c1 : g % 18446744073709551616 < 9223372036854775808
      · by_cases c2 : h % 18446744073709551616 < 9223372036854775808
        · rw [if_pos c1, if_pos c2] at e0
          exact e0
        · rw [if_pos c1, if_neg c2] at e0
          omega
      · by_cases c2 : h % 18446744073709551616 < 9223372036854775808
        · rw [if_neg c1, if_pos c2] at e0
          omega
        · rw [if_neg c1, if_neg c2] at e0
          omega
    simp only [rf_big] at g1 h1
    have ed := rf_dc_inj (n := n) (g := g / 18446744073709551616) (h := h / 18446744073709551616) (by omega) (by generalize rf_big n = b at g1 ⊢; omega) (by omega) (by generalize rf_big n = b at h1 ⊢; omega) (fun j hj => e (j + 1) (by omega))
    omega
theorem rf_pr_pos {n gs : Int} (h : 0 ≤ rf_pr n gs) : 0 ≤ n ∧ n / 10 < gs ∧ n % 10 ≤ 3 ∧ rf_pr n gs = 4 * (n / 10) + n % 10 := by
  unfold rf_pr at h ⊢
  by_cases hc : 0 ≤ n ∧ n / 10 < gs ∧ n % 10 ≤ 3
  · rw [if_pos hc]
    exact ⟨hc.1, hc.2.1, hc.2.2, rfl⟩
  · rw [if_neg hc] at h
    omega
theorem rf_gsb {T O W K B S E u p h gs : Int} (_ : rf_hs T O W K B S E u p h gs) : True := trivial
/-- the two tellings of one number -/
theorem rf_hs_va {T O W K B S E u p h gs n w : Int} (a : rf_hs T O W K B S E u p h gs) (h0 : 0 ≤ rf_pl n w gs) (hg : gs ≤ 7) : rf_dc (rf_pl n w gs).toNat T = rf_va w n O W K B S E u p h := by
  obtain ⟨hi, e⟩ := rf_pl_ix h0
  obtain ⟨a1, a2, a3, a4, a5, a6⟩ := a
  rw [e]
  rcases rf_pl_w hi with rfl | rfl | rfl | rfl | rfl | rfl | rfl | rfl | rfl
  · rw [rf_ix01 (Or.inl rfl)] at hi ⊢
    by_cases hc : 0 ≤ n ∧ n ≤ 3
    · rw [if_pos hc]
      show rf_dc (0 + n).toNat T = rf_dc n.toNat O
      rw [Int.zero_add]
      exact (a1 n.toNat (by omega)).1
    · rw [if_neg hc] at hi
      omega
  · rw [rf_ix01 (Or.inr rfl)] at hi ⊢
    by_cases hc : 0 ≤ n ∧ n ≤ 3
    · rw [if_pos hc]
      show rf_dc (4 + n).toNat T = rf_dc n.toNat W
      rw [show (4 + n).toNat = 4 + n.toNat by omega]
      exact (a1 n.toNat (by omega)).2
    · rw [if_neg hc] at hi
      omega
  · rw [rf_ix23 (Or.inl rfl)] at hi ⊢
    obtain ⟨p1, p2, p3, p4⟩ := rf_pr_pos hi
    rw [p4]
    show rf_dc (8 + (4 * (n / 10) + n % 10)).toNat T = rf_dc (4 * (n / 10) + n % 10).toNat K
    rw [show (8 + (4 * (n / 10) + n % 10)).toNat = 8 + (4 * (n / 10) + n % 10).toNat by omega]
    exact ((a2 _ (by omega)).1 (by omega)).1
  · rw [rf_ix23 (Or.inr rfl)] at hi ⊢
    obtain ⟨p1, p2, p3, p4⟩ := rf_pr_pos hi
    rw [p4]
    show rf_dc (36 + (4 * (n / 10) + n % 10)).toNat T = rf_dc (4 * (n / 10) + n % 10).toNat B
    rw [show (36 + (4 * (n / 10) + n % 10)).toNat = 36 + (4 * (n / 10) + n % 10).toNat by omega]
    exact ((a2 _ (by omega)).1 (by omega)).2
  · rw [rf_ix45 (Or.inl rfl)] at hi ⊢
    by_cases hc : 0 ≤ n ∧ n < gs
    · rw [if_pos hc]
      show rf_dc (64 + n).toNat T = rf_dc n.toNat S
      rw [show (64 + n).toNat = 64 + n.toNat by omega]
      exact (a3 n.toNat (by omega) (by omega)).1
    · rw [if_neg hc] at hi
      omega
  · rw [rf_ix45 (Or.inr rfl)] at hi ⊢
    by_cases hc : 0 ≤ n ∧ n < gs
    · rw [if_pos hc]
      show rf_dc (71 + n).toNat T = rf_dc n.toNat E
      rw [show (71 + n).toNat = 71 + n.toNat by omega]
      exact (a3 n.toNat (by omega) (by omega)).2
    · rw [if_neg hc] at hi
      omega
  · rw [rf_ix68 (by omega)] at hi ⊢
    by_cases hc : n = 0
    · rw [if_pos hc]
      exact a4
    · rw [if_neg hc] at hi
      omega
  · rw [rf_ix68 (by omega)] at hi ⊢
    by_cases hc : n = 0
    · rw [if_pos hc]
      exact a5
    · rw [if_neg hc] at hi
      omega
  · rw [rf_ix68 (by omega)] at hi ⊢
    by_cases hc : n = 0
    · rw [if_pos hc]
      exact a6
    · rw [if_neg hc] at hi
      omega
theorem rf_ly_eq {k w n v X : Int} (h : w = k) (h5 : k ≤ 5) : rf_ly k w n v X = rf_up (rf_sp w n).toNat v X := by
  unfold rf_ly
  rw [if_pos h, if_pos h5]
theorem rf_ly_ne {k w n v X : Int} (h : w ≠ k) : rf_ly k w n v X = X := by
  unfold rf_ly
  rw [if_neg h]
theorem rf_ly_68 {k w n v X : Int} (h : w = k) (h5 : ¬ k ≤ 5) : rf_ly k w n v X = v := by
  unfold rf_ly
  rw [if_pos h, if_neg h5]
theorem rf_sp23 {w n : Int} (h : w = 2 ∨ w = 3) : rf_sp w n = 4 * (n / 10) + n % 10 := by
  unfold rf_sp
  rw [if_pos h]
theorem rf_spn {w n : Int} (h : ¬ (w = 2 ∨ w = 3)) : rf_sp w n = n := by
  unfold rf_sp
  rw [if_neg h]
theorem rf_hs_ly {T O W K B S E u p h gs n w v : Int} (a : rf_hs T O W K B S E u p h gs) (h0 : 0 ≤ rf_pl n w gs) (hg : gs ≤ 7) (v1 : -9223372036854775808 ≤ v) (v2 : v ≤ 9223372036854775807) : rf_hs (rf_up (rf_pl n w gs).toNat v T) (rf_ly 0 w n v O) (rf_ly 1 w n v W) (rf_ly 2 w n v K) (rf_ly 3 w n v B) (rf_ly 4 w n v S) (rf_ly 5 w n v E) (rf_ly 6 w n v u) (rf_ly 7 w n v p) (rf_ly 8 w n v h) gs := by
  obtain ⟨hi, e⟩ := rf_pl_ix h0
  obtain ⟨a1, a2, a3, a4, a5, a6⟩ := a
  rw [e]
  rcases rf_pl_w hi with rfl | rfl | rfl | rfl | rfl | rfl | rfl | rfl | rfl
  · rw [rf_ix01 (by omega)] at hi ⊢
    have hc : 0 ≤ n ∧ n ≤ 3 := by
      by_cases hc : 0 ≤ n ∧ n ≤ 3
      · exact hc
      · rw [if_neg hc] at hi
        omega
    rw [if_pos hc]
    rw [rf_ly_eq rfl (by omega), rf_ly_ne (by omega), rf_ly_ne (by omega), rf_ly_ne (by omega), rf_ly_ne (by omega), rf_ly_ne (by omega), rf_ly_ne (by omega), rf_ly_ne (by omega), rf_ly_ne (by omega)]
    rw [rf_spn (by omega)]
    have eP : (rf_fst 0 + n).toNat = 0 + n.toNat := by
      have : rf_fst 0 = 0 := rfl
      omega
    rw [eP]
    refine ⟨fun j hj => ⟨?_, ?_⟩, fun j hj => ⟨fun hx => ⟨?_, ?_⟩, fun hx => ?_⟩, fun j hj hx => ⟨?_, ?_⟩, ?_, ?_, ?_⟩
    · rw [rf_dc_up v1 v2, rf_dc_up v1 v2]
      by_cases hj9 : j = n.toNat
      · rw [if_pos (by omega), if_pos hj9]
      · rw [if_neg (by omega), if_neg hj9]
        exact (a1 j hj).1
    · rw [rf_dc_up v1 v2, if_neg (by omega)]
      exact (a1 j hj).2
    · rw [rf_dc_up v1 v2, if_neg (by omega)]
      exact ((a2 j hj).1 hx).1
    · rw [rf_dc_up v1 v2, if_neg (by omega)]
      exact ((a2 j hj).1 hx).2
    · rw [rf_dc_up v1 v2, if_neg (by omega)]
      exact (a2 j hj).2 hx
    · rw [rf_dc_up v1 v2, if_neg (by omega)]
      exact (a3 j hj hx).1
    · rw [rf_dc_up v1 v2, if_neg (by omega)]
      exact (a3 j hj hx).2
    · rw [rf_dc_up v1 v2, if_neg (by omega)]
      exact a4
    · rw [rf_dc_up v1 v2, if_neg (by omega)]
      exact a5
    · rw [rf_dc_up v1 v2, if_neg (by omega)]
      exact a6
  · rw [rf_ix01 (by omega)] at hi ⊢
    have hc : 0 ≤ n ∧ n ≤ 3 := by
      by_cases hc : 0 ≤ n ∧ n ≤ 3
      · exact hc
      · rw [if_neg hc] at hi
        omega
    rw [if_pos hc]
    rw [rf_ly_ne (by omega), rf_ly_eq rfl (by omega), rf_ly_ne (by omega), rf_ly_ne (by omega), rf_ly_ne (by omega), rf_ly_ne (by omega), rf_ly_ne (by omega), rf_ly_ne (by omega), rf_ly_ne (by omega)]
    rw [rf_spn (by omega)]
    have eP : (rf_fst 1 + n).toNat = 4 + n.toNat := by
      have : rf_fst 1 = 4 := rfl
      omega
    rw [eP]
    refine ⟨fun j hj => ⟨?_, ?_⟩, fun j hj => ⟨fun hx => ⟨?_, ?_⟩, fun hx => ?_⟩, fun j hj hx => ⟨?_, ?_⟩, ?_, ?_, ?_⟩
    · rw [rf_dc_up v1 v2, if_neg (by omega)]
      exact (a1 j hj).1
    · rw [rf_dc_up v1 v2, rf_dc_up v1 v2]
      by_cases hj9 : j = n.toNat
      · rw [if_pos (by omega), if_pos hj9]
      · rw [if_neg (by omega), if_neg hj9]
        exact (a1 j hj).2
    · rw [rf_dc_up v1 v2, if_neg (by omega)]
      exact ((a2 j hj).1 hx).1
    · rw [rf_dc_up v1 v2, if_neg (by omega)]
      exact ((a2 j hj).1 hx).2
    · rw [rf_dc_up v1 v2, if_neg (by omega)]
      exact (a2 j hj).2 hx
    · rw [rf_dc_up v1 v2, if_neg (by omega)]
      exact (a3 j hj hx).1
    · rw [rf_dc_up v1 v2, if_neg (by omega)]
      exact (a3 j hj hx).2
    · rw [rf_dc_up v1 v2, if_neg (by omega)]
      exact a4
    · rw [rf_dc_up v1 v2, if_neg (by omega)]
      exact a5
    · rw [rf_dc_up v1 v2, if_neg (by omega)]
      exact a6
  · rw [rf_ix23 (by omega)] at hi ⊢
    obtain ⟨p1, p2, p3, p4⟩ := rf_pr_pos hi
    rw [p4]
    rw [rf_ly_ne (by omega), rf_ly_ne (by omega), rf_ly_eq rfl (by omega), rf_ly_ne (by omega), rf_ly_ne (by omega), rf_ly_ne (by omega), rf_ly_ne (by omega), rf_ly_ne (by omega), rf_ly_ne (by omega)]
    rw [rf_sp23 (by omega)]
    have eP : (rf_fst 2 + (4 * (n / 10) + n % 10)).toNat = 8 + (4 * (n / 10) + n % 10).toNat := by
      have : rf_fst 2 = 8 := rfl
      omega
    rw [eP]
    refine ⟨fun j hj => ⟨?_, ?_⟩, fun j hj => ⟨fun hx => ⟨?_, ?_⟩, fun hx => ?_⟩, fun j hj hx => ⟨?_, ?_⟩, ?_, ?_, ?_⟩
    · rw [rf_dc_up v1 v2, if_neg (by omega)]
      exact (a1 j hj).1
    · rw [rf_dc_up v1 v2, if_neg (by omega)]
      exact (a1 j hj).2
    · rw [rf_dc_up v1 v2, rf_dc_up v1 v2]
      by_cases hj9 : j = (4 * (n / 10) + n % 10).toNat
      · rw [if_pos (by omega), if_pos hj9]
      · rw [if_neg (by omega), if_neg hj9]
        exact ((a2 j hj).1 hx).1
    · rw [rf_dc_up v1 v2, if_neg (by omega)]
      exact ((a2 j hj).1 hx).2
    · rw [rf_dc_up v1 v2, if_neg (by omega)]
      exact (a2 j hj).2 hx
    · rw [rf_dc_up v1 v2, if_neg (by omega)]
      exact (a3 j hj hx).1
    · rw [rf_dc_up v1 v2, if_neg (by omega)]
      exact (a3 j hj hx).2
    · rw [rf_dc_up v1 v2, if_neg (by omega)]
      exact a4
    · rw [rf_dc_up v1 v2, if_neg (by omega)]
      exact a5
    · rw [rf_dc_up v1 v2, if_neg (by omega)]
      exact a6
  · rw [rf_ix23 (by omega)] at hi ⊢
    obtain ⟨p1, p2, p3, p4⟩ := rf_pr_pos hi
    rw [p4]
    rw [rf_ly_ne (by omega), rf_ly_ne (by omega), rf_ly_ne (by omega), rf_ly_eq rfl (by omega), rf_ly_ne (by omega), rf_ly_ne (by omega), rf_ly_ne (by omega), rf_ly_ne (by omega), rf_ly_ne (by omega)]
    rw [rf_sp23 (by omega)]
    have eP : (rf_fst 3 + (4 * (n / 10) + n % 10)).toNat = 36 + (4 * (n / 10) + n % 10).toNat := by
      have : rf_fst 3 = 36 := rfl
      omega
    rw [eP]
    refine ⟨fun j hj => ⟨?_, ?_⟩, fun j hj => ⟨fun hx => ⟨?_, ?_⟩, fun hx => ?_⟩, fun j hj hx => ⟨?_, ?_⟩, ?_, ?_, ?_⟩
    · rw [rf_dc_up v1 v2, if_neg (by omega)]
      exact (a1 j hj).1
    · rw [rf_dc_up v1 v2, if_neg (by omega)]
      exact (a1 j hj).2
    · rw [rf_dc_up v1 v2, if_neg (by omega)]
      exact ((a2 j hj).1 hx).1
    · rw [rf_dc_up v1 v2, rf_dc_up v1 v2]
      by_cases hj9 : j = (4 * (n / 10) + n % 10).toNat
      · rw [if_pos (by omega), if_pos hj9]
      · rw [if_neg (by omega), if_neg hj9]
        exact ((a2 j hj).1 hx).2
    · rw [rf_dc_up v1 v2, if_neg (by omega)]
      exact (a2 j hj).2 hx
    · rw [rf_dc_up v1 v2, if_neg (by omega)]
      exact (a3 j hj hx).1
    · rw [rf_dc_up v1 v2, if_neg (by omega)]
      exact (a3 j hj hx).2
    · rw [rf_dc_up v1 v2, if_neg (by omega)]
      exact a4
    · rw [rf_dc_up v1 v2, if_neg (by omega)]
      exact a5
    · rw [rf_dc_up v1 v2, if_neg (by omega)]
      exact a6
  · rw [rf_ix45 (by omega)] at hi ⊢
    have hc : 0 ≤ n ∧ n < gs := by
      by_cases hc : 0 ≤ n ∧ n < gs
      · exact hc
      · rw [if_neg hc] at hi
        omega
    rw [if_pos hc]
    rw [rf_ly_ne (by omega), rf_ly_ne (by omega), rf_ly_ne (by omega), rf_ly_ne (by omega), rf_ly_eq rfl (by omega), rf_ly_ne (by omega), rf_ly_ne (by omega), rf_ly_ne (by omega), rf_ly_ne (by omega)]
    rw [rf_spn (by omega)]
    have eP : (rf_fst 4 + n).toNat = 64 + n.toNat := by
      have : rf_fst 4 = 64 := rfl
      omega
    rw [eP]
    refine ⟨fun j hj => ⟨?_, ?_⟩, fun j hj => ⟨fun hx => ⟨?_, ?_⟩, fun hx => ?_⟩, fun j hj hx => ⟨?_, ?_⟩, ?_, ?_, ?_⟩
    · rw [rf_dc_up v1 v2, if_neg (by omega)]
      exact (a1 j hj).1
    · rw [rf_dc_up v1 v2, if_neg (by omega)]
      exact (a1 j hj).2
    · rw [rf_dc_up v1 v2, if_neg (by omega)]
      exact ((a2 j hj).1 hx).1
    · rw [rf_dc_up v1 v2, if_neg (by omega)]
      exact ((a2 j hj).1 hx).2
    · rw [rf_dc_up v1 v2, if_neg (by omega)]
      exact (a2 j hj).2 hx
    · rw [rf_dc_up v1 v2, rf_dc_up v1 v2]
      by_cases hj9 : j = n.toNat
      · rw [if_pos (by omega), if_pos hj9]
      · rw [if_neg (by omega), if_neg hj9]
        exact (a3 j hj hx).1
    · rw [rf_dc_up v1 v2, if_neg (by omega)]
      exact (a3 j hj hx).2
    · rw [rf_dc_up v1 v2, if_neg (by omega)]
      exact a4
    · rw [rf_dc_up v1 v2, if_neg (by omega)]
      exact a5
    · rw [rf_dc_up v1 v2, if_neg (by omega)]
      exact a6
  · rw [rf_ix45 (by omega)] at hi ⊢
    have hc : 0 ≤ n ∧ n < gs := by
      by_cases hc : 0 ≤ n ∧ n < gs
      · exact hc
      · rw [if_neg hc] at hi
        omega
    rw [if_pos hc]
    rw [rf_ly_ne (by omega), rf_ly_ne (by omega), rf_ly_ne (by omega), rf_ly_ne (by omega), rf_ly_ne (by omega), rf_ly_eq rfl (by omega), rf_ly_ne (by omega), rf_ly_ne (by omega), rf_ly_ne (by omega)]
    rw [rf_spn (by omega)]
    have eP : (rf_fst 5 + n).toNat = 71 + n.toNat := by
      have : rf_fst 5 = 71 := rfl
      omega
    rw [eP]
    refine ⟨fun j hj => ⟨?_, ?_⟩, fun j hj => ⟨fun hx => ⟨?_, ?_⟩, fun hx => ?_⟩, fun j hj hx => ⟨?_, ?_⟩, ?_, ?_, ?_⟩
    · rw [rf_dc_up v1 v2, if_neg (by omega)]
      exact (a1 j hj).1
    · rw [rf_dc_up v1 v2, if_neg (by omega)]
      exact (a1 j hj).2
    · rw [rf_dc_up v1 v2, if_neg (by omega)]
      exact ((a2 j hj).1 hx).1
    · rw [rf_dc_up v1 v2, if_neg (by omega)]
      exact ((a2 j hj).1 hx).2
    · rw [rf_dc_up v1 v2, if_neg (by omega)]
      exact (a2 j hj).2 hx
    · rw [rf_dc_up v1 v2, if_neg (by omega)]
      exact (a3 j hj hx).1
    · rw [rf_dc_up v1 v2, rf_dc_up v1 v2]
      by_cases hj9 : j = n.toNat
      · rw [if_pos (by omega), if_pos hj9]
      · rw [if_neg (by omega), if_neg hj9]
        exact (a3 j hj hx).2
    · rw [rf_dc_up v1 v2, if_neg (by omega)]
      exact a4
    · rw [rf_dc_up v1 v2, if_neg (by omega)]
      exact a5
    · rw [rf_dc_up v1 v2, if_neg (by omega)]
      exact a6
  · rw [rf_ix68 (by omega)] at hi ⊢
    have hc : n = 0 := by
      by_cases hc : n = 0
      · exact hc
      · rw [if_neg hc] at hi
        omega
    rw [if_pos hc]
    rw [rf_ly_ne (by omega), rf_ly_ne (by omega), rf_ly_ne (by omega), rf_ly_ne (by omega), rf_ly_ne (by omega), rf_ly_ne (by omega), rf_ly_68 rfl (by omega), rf_ly_ne (by omega), rf_ly_ne (by omega)]
    have eP : (rf_fst 6 + 0).toNat = 78 := by
      have : rf_fst 6 = 78 := rfl
      omega
    rw [eP]
    refine ⟨fun j hj => ⟨?_, ?_⟩, fun j hj => ⟨fun hx => ⟨?_, ?_⟩, fun hx => ?_⟩, fun j hj hx => ⟨?_, ?_⟩, ?_, ?_, ?_⟩
    · rw [rf_dc_up v1 v2, if_neg (by omega)]
      exact (a1 j hj).1
    · rw [rf_dc_up v1 v2, if_neg (by omega)]
      exact (a1 j hj).2
    · rw [rf_dc_up v1 v2, if_neg (by omega)]
      exact ((a2 j hj).1 hx).1
    · rw [rf_dc_up v1 v2, if_neg (by omega)]
      exact ((a2 j hj).1 hx).2
    · rw [rf_dc_up v1 v2, if_neg (by omega)]
      exact (a2 j hj).2 hx
    · rw [rf_dc_up v1 v2, if_neg (by omega)]
      exact (a3 j hj hx).1
    · rw [rf_dc_up v1 v2, if_neg (by omega)]
      exact (a3 j hj hx).2
    · rw [rf_dc_up v1 v2, if_pos (by omega)]
    · rw [rf_dc_up v1 v2, if_neg (by omega)]
      exact a5
    · rw [rf_dc_up v1 v2, if_neg (by omega)]
      exact a6
  · rw [rf_ix68 (by omega)] at hi ⊢
    have hc : n = 0 := by
      by_cases hc : n = 0
      · exact hc
      · rw [if_neg hc] at hi
        omega
    rw [if_pos hc]
    rw [rf_ly_ne (by omega), rf_ly_ne (by omega), rf_ly_ne (by omega), rf_ly_ne (by omega), rf_ly_ne (by omega), rf_ly_ne (by omega), rf_ly_ne (by omega), rf_ly_68 rfl (by omega), rf_ly_ne (by omega)]
    have eP : (rf_fst 7 + 0).toNat = 79 := by
      have : rf_fst 7 = 79 := rfl
      omega
    rw [eP]
    refine ⟨fun j hj => ⟨?_, ?_⟩, fun j hj => ⟨fun hx => ⟨?_, ?_⟩, fun hx => ?_⟩, fun j hj hx => ⟨?_, ?_⟩, ?_, ?_, ?_⟩
    · rw [rf_dc_up v1 v2, if_neg (by omega)]
      exact (a1 j hj).1
    · rw [rf_dc_up v1 v2, if_neg (by omega)]
      exact (a1 j hj).2
    · rw [rf_dc_up v1 v2, if_neg (by omega)]
      exact ((a2 j hj).1 hx).1
    · rw [rf_dc_up v1 v2, if_neg (by omega)]
      exact ((a2 j hj).1 hx).2
    · rw [rf_dc_up v1 v2, if_neg (by omega)]
      exact (a2 j hj).2 hx
    · rw [rf_dc_up v1 v2, if_neg (by omega)]
      exact (a3 j hj hx).1
    · rw [rf_dc_up v1 v2, if_neg (by omega)]
      exact (a3 j hj hx).2
    · rw [rf_dc_up v1 v2, if_neg (by omega)]
      exact a4
    · rw [rf_dc_up v1 v2, if_pos (by omega)]
    · rw [rf_dc_up v1 v2, if_neg (by omega)]
      exact a6
  · rw [rf_ix68 (by omega)] at hi ⊢
    have hc : n = 0 := by
      by_cases hc : n = 0
      · exact hc
      · rw [if_neg hc] at hi
        omega
    rw [if_pos hc]
    rw [rf_ly_ne (by omega), rf_ly_ne (by omega), rf_ly_ne (by omega), rf_ly_ne (by omega), rf_ly_ne (by omega), rf_ly_ne (by omega), rf_ly_ne (by omega), rf_ly_ne (by omega), rf_ly_68 rfl (by omega)]
    have eP : (rf_fst 8 + 0).toNat = 80 := by
      have : rf_fst 8 = 80 := rfl
      omega
    rw [eP]
    refine ⟨fun j hj => ⟨?_, ?_⟩, fun j hj => ⟨fun hx => ⟨?_, ?_⟩, fun hx => ?_⟩, fun j hj hx => ⟨?_, ?_⟩, ?_, ?_, ?_⟩
    · rw [rf_dc_up v1 v2, if_neg (by omega)]
      exact (a1 j hj).1
    · rw [rf_dc_up v1 v2, if_neg (by omega)]
      exact (a1 j hj).2
    · rw [rf_dc_up v1 v2, if_neg (by omega)]
      exact ((a2 j hj).1 hx).1
    · rw [rf_dc_up v1 v2, if_neg (by omega)]
      exact ((a2 j hj).1 hx).2
    · rw [rf_dc_up v1 v2, if_neg (by omega)]
      exact (a2 j hj).2 hx
    · rw [rf_dc_up v1 v2, if_neg (by omega)]
      exact (a3 j hj hx).1
    · rw [rf_dc_up v1 v2, if_neg (by omega)]
      exact (a3 j hj hx).2
    · rw [rf_dc_up v1 v2, if_neg (by omega)]
      exact a4
    · rw [rf_dc_up v1 v2, if_neg (by omega)]
      exact a5
    · rw [rf_dc_up v1 v2, if_pos (by omega)]

section
variable {xt : Nat → Nat} {o : Option va_E}
theorem hl_upb {i v u : Int} (h : 0 ≤ u ∧ u ≤ rf_BIG) (h1 : 0 ≤ i) (h2 : i ≤ 374) : 0 ≤ rf_up i.toNat v u ∧ rf_up i.toNat v u ≤ rf_BIG := by
  have hb := rf_up_big 375 i.toNat v u (by omega) h.1 (by rw [← rf_BIG_eq]; omega)
  rw [← rf_BIG_eq] at hb
  exact ⟨hb.1, by omega⟩
theorem hl_nm {xs : List Int} (p0 : rf_XP xt 30 [o] xs) (hb : 0 ≤ rf_chn xs ∧ rf_chn xs ≤ rf_BIG) : ∃ h, (0 ≤ h ∧ h ≤ rf_BIG) ∧ rf_XP xt 30 [o] [h] ∧ rf_XP xt 41 [] (h :: xs) := by
  obtain ⟨e, rfl⟩ := hc_some p0
  exact ⟨rf_chn xs, hb, p0, rfl⟩
theorem hl_nd {h : Int} {xs : List Int} (p0 : rf_XP xt 30 [o] xs) (p1 : rf_XP xt 41 [] (h :: xs)) : rf_XP xt 30 [o] [h] := by
  obtain ⟨e, rfl⟩ := hc_some p0
  have e1 : h = rf_chn xs := p1
  subst e1
  exact p0
theorem hl_11 {i1 v1 g : Int} (p0 : rf_XP xt 30 [o] [i1, v1, g]) (q0 : 0 ≤ g) (q1 : g ≤ rf_BIG) (q2 : 0 ≤ i1) (q3 : i1 ≤ 374) : ∃ h, (0 ≤ h ∧ h ≤ rf_BIG) ∧ rf_XP xt 30 [o] [h] ∧ rf_XP xt 41 [] [h, i1, v1, g] := hl_nm p0 (hl_upb ⟨q0, q1⟩ q2 q3)
theorem hl_12 {h i1 v1 g : Int} (p0 : rf_XP xt 30 [o] [i1, v1, g]) (p1 : rf_XP xt 41 [] [h, i1, v1, g]) : rf_XP xt 30 [o] [h] := hl_nd p0 p1
theorem hl_13 {i1 v1 i2 v2 g : Int} (p0 : rf_XP xt 30 [o] [i1, v1, i2, v2, g]) (q0 : 0 ≤ g) (q1 : g ≤ rf_BIG) (q2 : 0 ≤ i1) (q3 : i1 ≤ 374) (q4 : 0 ≤ i2) (q5 : i2 ≤ 374) : ∃ h, (0 ≤ h ∧ h ≤ rf_BIG) ∧ rf_XP xt 30 [o] [h] ∧ rf_XP xt 41 [] [h, i1, v1, i2, v2, g] := hl_nm p0 (hl_upb (hl_upb ⟨q0, q1⟩ q4 q5) q2 q3)
theorem hl_14 {h i1 v1 i2 v2 g : Int} (p0 : rf_XP xt 30 [o] [i1, v1, i2, v2, g]) (p1 : rf_XP xt 41 [] [h, i1, v1, i2, v2, g]) : rf_XP xt 30 [o] [h] := hl_nd p0 p1
theorem hl_15 {i1 v1 i2 v2 i3 v3 g : Int} (p0 : rf_XP xt 30 [o] [i1, v1, i2, v2, i3, v3, g]) (q0 : 0 ≤ g) (q1 : g ≤ rf_BIG) (q2 : 0 ≤ i1) (q3 : i1 ≤ 374) (q4 : 0 ≤ i2) (q5 : i2 ≤ 374) (q6 : 0 ≤ i3) (q7 : i3 ≤ 374) : ∃ h, (0 ≤ h ∧ h ≤ rf_BIG) ∧ rf_XP xt 30 [o] [h] ∧ rf_XP xt 41 [] [h, i1, v1, i2, v2, i3, v3, g] := hl_nm p0 (hl_upb (hl_upb (hl_upb ⟨q0, q1⟩ q6 q7) q4 q5) q2 q3)
theorem hl_16 {h i1 v1 i2 v2 i3 v3 g : Int} (p0 : rf_XP xt 30 [o] [i1, v1, i2, v2, i3, v3, g]) (p1 : rf_XP xt 41 [] [h, i1, v1, i2, v2, i3, v3, g]) : rf_XP xt 30 [o] [h] := hl_nd p0 p1
theorem hl_17 {i1 v1 i2 v2 i3 v3 i4 v4 g : Int} (p0 : rf_XP xt 30 [o] [i1, v1, i2, v2, i3, v3, i4, v4, g]) (q0 : 0 ≤ g) (q1 : g ≤ rf_BIG) (q2 : 0 ≤ i1) (q3 : i1 ≤ 374) (q4 : 0 ≤ i2) (q5 : i2 ≤ 374) (q6 : 0 ≤ i3) (q7 : i3 ≤ 374) (q8 : 0 ≤ i4) (q9 : i4 ≤ 374) : ∃ h, (0 ≤ h ∧ h ≤ rf_BIG) ∧ rf_XP xt 30 [o] [h] ∧ rf_XP xt 41 [] [h, i1, v1, i2, v2, i3, v3, i4, v4, g] := hl_nm p0 (hl_upb (hl_upb (hl_upb (hl_upb ⟨q0, q1⟩ q8 q9) q6 q7) q4 q5) q2 q3)
theorem hl_18 {h i1 v1 i2 v2 i3 v3 i4 v4 g : Int} (p0 : rf_XP xt 30 [o] [i1, v1, i2, v2, i3, v3, i4, v4, g]) (p1 : rf_XP xt 41 [] [h, i1, v1, i2, v2, i3, v3, i4, v4, g]) : rf_XP xt 30 [o] [h] := hl_nd p0 p1
theorem hl_19 {i1 v1 i2 v2 i3 v3 i4 v4 i5 v5 g : Int} (p0 : rf_XP xt 30 [o] [i1, v1, i2, v2, i3, v3, i4, v4, i5, v5, g]) (q0 : 0 ≤ g) (q1 : g ≤ rf_BIG) (q2 : 0 ≤ i1) (q3 : i1 ≤ 374) (q4 : 0 ≤ i2) (q5 : i2 ≤ 374) (q6 : 0 ≤ i3) (q7 : i3 ≤ 374) (q8 : 0 ≤ i4) (q9 : i4 ≤ 374) (q10 : 0 ≤ i5) (q11 : i5 ≤ 374) : ∃ h, (0 ≤ h ∧ h ≤ rf_BIG) ∧ rf_XP xt 30 [o] [h] ∧ rf_XP xt 41 [] [h, i1, v1, i2, v2, i3, v3, i4, v4, i5, v5, g] := hl_nm p0 (hl_upb (hl_upb (hl_upb (hl_upb (hl_upb ⟨q0, q1⟩ q10 q11) q8 q9) q6 q7) q4 q5) q2 q3)
theorem hl_20 {h i1 v1 i2 v2 i3 v3 i4 v4 i5 v5 g : Int} (p0 : rf_XP xt 30 [o] [i1, v1, i2, v2, i3, v3, i4, v4, i5, v5, g]) (p1 : rf_XP xt 41 [] [h, i1, v1, i2, v2, i3, v3, i4, v4, i5, v5, g]) : rf_XP xt 30 [o] [h] := hl_nd p0 p1
theorem hl_21 {i1 v1 i2 v2 i3 v3 i4 v4 i5 v5 i6 v6 g : Int} (p0 : rf_XP xt 30 [o] [i1, v1, i2, v2, i3, v3, i4, v4, i5, v5, i6, v6, g]) (q0 : 0 ≤ g) (q1 : g ≤ rf_BIG) (q2 : 0 ≤ i1) (q3 : i1 ≤ 374) (q4 : 0 ≤ i2) (q5 : i2 ≤ 374) (q6 : 0 ≤ i3) (q7 : i3 ≤ 374) (q8 : 0 ≤ i4) (q9 : i4 ≤ 374) (q10 : 0 ≤ i5) (q11 : i5 ≤ 374) (q12 : 0 ≤ i6) (q13 : i6 ≤ 374) : ∃ h, (0 ≤ h ∧ h ≤ rf_BIG) ∧ rf_XP xt 30 [o] [h] ∧ rf_XP xt 41 [] [h, i1, v1, i2, v2, i3, v3, i4, v4, i5, v5, i6, v6, g] := hl_nm p0 (hl_upb (hl_upb (hl_upb (hl_upb (hl_upb (hl_upb ⟨q0, q1⟩ q12 q13) q10 q11) q8 q9) q6 q7) q4 q5) q2 q3)
theorem hl_22 {h i1 v1 i2 v2 i3 v3 i4 v4 i5 v5 i6 v6 g : Int} (p0 : rf_XP xt 30 [o] [i1, v1, i2, v2, i3, v3, i4, v4, i5, v5, i6, v6, g]) (p1 : rf_XP xt 41 [] [h, i1, v1, i2, v2, i3, v3, i4, v4, i5, v5, i6, v6, g]) : rf_XP xt 30 [o] [h] := hl_nd p0 p1
theorem hl_23 {i1 v1 i2 v2 i3 v3 i4 v4 i5 v5 i6 v6 i7 v7 g : Int} (p0 : rf_XP xt 30 [o] [i1, v1, i2, v2, i3, v3, i4, v4, i5, v5, i6, v6, i7, v7, g]) (q0 : 0 ≤ g) (q1 : g ≤ rf_BIG) (q2 : 0 ≤ i1) (q3 : i1 ≤ 374) (q4 : 0 ≤ i2) (q5 : i2 ≤ 374) (q6 : 0 ≤ i3) (q7 : i3 ≤ 374) (q8 : 0 ≤ i4) (q9 : i4 ≤ 374) (q10 : 0 ≤ i5) (q11 : i5 ≤ 374) (q12 : 0 ≤ i6) (q13 : i6 ≤ 374) (q14 : 0 ≤ i7) (q15 : i7 ≤ 374) : ∃ h, (0 ≤ h ∧ h ≤ rf_BIG) ∧ rf_XP xt 30 [o] [h] ∧ rf_XP xt 41 [] [h, i1, v1, i2, v2, i3, v3, i4, v4, i5, v5, i6, v6, i7, v7, g] := hl_nm p0 (hl_upb (hl_upb (hl_upb (hl_upb (hl_upb (hl_upb (hl_upb ⟨q0, q1⟩ q14 q15) q12 q13) q10 q11) q8 q9) q6 q7) q4 q5) q2 q3)
theorem hl_24 {h i1 v1 i2 v2 i3 v3 i4 v4 i5 v5 i6 v6 i7 v7 g : Int} (p0 : rf_XP xt 30 [o] [i1, v1, i2, v2, i3, v3, i4, v4, i5, v5, i6, v6, i7, v7, g]) (p1 : rf_XP xt 41 [] [h, i1, v1, i2, v2, i3, v3, i4, v4, i5, v5, i6, v6, i7, v7, g]) : rf_XP xt 30 [o] [h] := hl_nd p0 p1
theorem hl_25 {i1 v1 i2 v2 i3 v3 i4 v4 i5 v5 i6 v6 i7 v7 i8 v8 g : Int} (p0 : rf_XP xt 30 [o] [i1, v1, i2, v2, i3, v3, i4, v4, i5, v5, i6, v6, i7, v7, i8, v8, g]) (q0 : 0 ≤ g) (q1 : g ≤ rf_BIG) (q2 : 0 ≤ i1) (q3 : i1 ≤ 374) (q4 : 0 ≤ i2) (q5 : i2 ≤ 374) (q6 : 0 ≤ i3) (q7 : i3 ≤ 374) (q8 : 0 ≤ i4) (q9 : i4 ≤ 374) (q10 : 0 ≤ i5) (q11 : i5 ≤ 374) (q12 : 0 ≤ i6) (q13 : i6 ≤ 374) (q14 : 0 ≤ i7) (q15 : i7 ≤ 374) (q16 : 0 ≤ i8) (q17 : i8 ≤ 374) : ∃ h, (0 ≤ h ∧ h ≤ rf_BIG) ∧ rf_XP xt 30 [o] [h] ∧ rf_XP xt 41 [] [h, i1, v1, i2, v2, i3, v3, i4, v4, i5, v5, i6, v6, i7, v7, i8, v8, g] := hl_nm p0 (hl_upb (hl_upb (hl_upb (hl_upb (hl_upb (hl_upb (hl_upb (hl_upb ⟨q0, q1⟩ q16 q17) q14 q15) q12 q13) q10 q11) q8 q9) q6 q7) q4 q5) q2 q3)
theorem hl_26 {h i1 v1 i2 v2 i3 v3 i4 v4 i5 v5 i6 v6 i7 v7 i8 v8 g : Int} (p0 : rf_XP xt 30 [o] [i1, v1, i2, v2, i3, v3, i4, v4, i5, v5, i6, v6, i7, v7, i8, v8, g]) (p1 : rf_XP xt 41 [] [h, i1, v1, i2, v2, i3, v3, i4, v4, i5, v5, i6, v6, i7, v7, i8, v8, g]) : rf_XP xt 30 [o] [h] := hl_nd p0 p1
theorem hl_27 {i1 v1 i2 v2 i3 v3 i4 v4 i5 v5 i6 v6 i7 v7 i8 v8 i9 v9 g : Int} (p0 : rf_XP xt 30 [o] [i1, v1, i2, v2, i3, v3, i4, v4, i5, v5, i6, v6, i7, v7, i8, v8, i9, v9, g]) (q0 : 0 ≤ g) (q1 : g ≤ rf_BIG) (q2 : 0 ≤ i1) (q3 : i1 ≤ 374) (q4 : 0 ≤ i2) (q5 : i2 ≤ 374) (q6 : 0 ≤ i3) (q7 : i3 ≤ 374) (q8 : 0 ≤ i4) (q9 : i4 ≤ 374) (q10 : 0 ≤ i5) (q11 : i5 ≤ 374) (q12 : 0 ≤ i6) (q13 : i6 ≤ 374) (q14 : 0 ≤ i7) (q15 : i7 ≤ 374) (q16 : 0 ≤ i8) (q17 : i8 ≤ 374) (q18 : 0 ≤ i9) (q19 : i9 ≤ 374) : ∃ h, (0 ≤ h ∧ h ≤ rf_BIG) ∧ rf_XP xt 30 [o] [h] ∧ rf_XP xt 41 [] [h, i1, v1, i2, v2, i3, v3, i4, v4, i5, v5, i6, v6, i7, v7, i8, v8, i9, v9, g] := hl_nm p0 (hl_upb (hl_upb (hl_upb (hl_upb (hl_upb (hl_upb (hl_upb (hl_upb (hl_upb ⟨q0, q1⟩ q18 q19) q16 q17) q14 q15) q12 q13) q10 q11) q8 q9) q6 q7) q4 q5) q2 q3)
theorem hl_28 {h i1 v1 i2 v2 i3 v3 i4 v4 i5 v5 i6 v6 i7 v7 i8 v8 i9 v9 g : Int} (p0 : rf_XP xt 30 [o] [i1, v1, i2, v2, i3, v3, i4, v4, i5, v5, i6, v6, i7, v7, i8, v8, i9, v9, g]) (p1 : rf_XP xt 41 [] [h, i1, v1, i2, v2, i3, v3, i4, v4, i5, v5, i6, v6, i7, v7, i8, v8, i9, v9, g]) : rf_XP xt 30 [o] [h] := hl_nd p0 p1
theorem hl_29 {i1 v1 i2 v2 i3 v3 i4 v4 i5 v5 i6 v6 i7 v7 i8 v8 i9 v9 i10 v10 g : Int} (p0 : rf_XP xt 30 [o] [i1, v1, i2, v2, i3, v3, i4, v4, i5, v5, i6, v6, i7, v7, i8, v8, i9, v9, i10, v10, g]) (q0 : 0 ≤ g) (q1 : g ≤ rf_BIG) (q2 : 0 ≤ i1) (q3 : i1 ≤ 374) (q4 : 0 ≤ i2) (q5 : i2 ≤ 374) (q6 : 0 ≤ i3) (q7 : i3 ≤ 374) (q8 : 0 ≤ i4) (q9 : i4 ≤ 374) (q10 : 0 ≤ i5) (q11 : i5 ≤ 374) (q12 : 0 ≤ i6) (q13 : i6 ≤ 374) (q14 : 0 ≤ i7) (q15 : i7 ≤ 374) (q16 : 0 ≤ i8) (q17 : i8 ≤ 374) (q18 : 0 ≤ i9) (q19 : i9 ≤ 374) (q20 : 0 ≤ i10) (q21 : i10 ≤ 374) : ∃ h, (0 ≤ h ∧ h ≤ rf_BIG) ∧ rf_XP xt 30 [o] [h] ∧ rf_XP xt 41 [] [h, i1, v1, i2, v2, i3, v3, i4, v4, i5, v5, i6, v6, i7, v7, i8, v8, i9, v9, i10, v10, g] := hl_nm p0 (hl_upb (hl_upb (hl_upb (hl_upb (hl_upb (hl_upb (hl_upb (hl_upb (hl_upb (hl_upb ⟨q0, q1⟩ q20 q21) q18 q19) q16 q17) q14 q15) q12 q13) q10 q11) q8 q9) q6 q7) q4 q5) q2 q3)
theorem hl_30 {h i1 v1 i2 v2 i3 v3 i4 v4 i5 v5 i6 v6 i7 v7 i8 v8 i9 v9 i10 v10 g : Int} (p0 : rf_XP xt 30 [o] [i1, v1, i2, v2, i3, v3, i4, v4, i5, v5, i6, v6, i7, v7, i8, v8, i9, v9, i10, v10, g]) (p1 : rf_XP xt 41 [] [h, i1, v1, i2, v2, i3, v3, i4, v4, i5, v5, i6, v6, i7, v7, i8, v8, i9, v9, i10, v10, g]) : rf_XP xt 30 [o] [h] := hl_nd p0 p1
theorem hl_31 {i1 v1 i2 v2 i3 v3 i4 v4 i5 v5 i6 v6 i7 v7 i8 v8 i9 v9 i10 v10 i11 v11 g : Int} (p0 : rf_XP xt 30 [o] [i1, v1, i2, v2, i3, v3, i4, v4, i5, v5, i6, v6, i7, v7, i8, v8, i9, v9, i10, v10, i11, v11, g]) (q0 : 0 ≤ g) (q1 : g ≤ rf_BIG) (q2 : 0 ≤ i1) (q3 : i1 ≤ 374) (q4 : 0 ≤ i2) (q5 : i2 ≤ 374) (q6 : 0 ≤ i3) (q7 : i3 ≤ 374) (q8 : 0 ≤ i4) (q9 : i4 ≤ 374) (q10 : 0 ≤ i5) (q11 : i5 ≤ 374) (q12 : 0 ≤ i6) (q13 : i6 ≤ 374) (q14 : 0 ≤ i7) (q15 : i7 ≤ 374) (q16 : 0 ≤ i8) (q17 : i8 ≤ 374) (q18 : 0 ≤ i9) (q19 : i9 ≤ 374) (q20 : 0 ≤ i10) (q21 : i10 ≤ 374) (q22 : 0 ≤ i11) (q23 : i11 ≤ 374) : ∃ h, (0 ≤ h ∧ h ≤ rf_BIG) ∧ rf_XP xt 30 [o] [h] ∧ rf_XP xt 41 [] [h, i1, v1, i2, v2, i3, v3, i4, v4, i5, v5, i6, v6, i7, v7, i8, v8, i9, v9, i10, v10, i11, v11, g] := hl_nm p0 (hl_upb (hl_upb (hl_upb (hl_upb (hl_upb (hl_upb (hl_upb (hl_upb (hl_upb (hl_upb (hl_upb ⟨q0, q1⟩ q22 q23) q20 q21) q18 q19) q16 q17) q14 q15) q12 q13) q10 q11) q8 q9) q6 q7) q4 q5) q2 q3)
theorem hl_32 {h i1 v1 i2 v2 i3 v3 i4 v4 i5 v5 i6 v6 i7 v7 i8 v8 i9 v9 i10 v10 i11 v11 g : Int} (p0 : rf_XP xt 30 [o] [i1, v1, i2, v2, i3, v3, i4, v4, i5, v5, i6, v6, i7, v7, i8, v8, i9, v9, i10, v10, i11, v11, g]) (p1 : rf_XP xt 41 [] [h, i1, v1, i2, v2, i3, v3, i4, v4, i5, v5, i6, v6, i7, v7, i8, v8, i9, v9, i10, v10, i11, v11, g]) : rf_XP xt 30 [o] [h] := hl_nd p0 p1
theorem hl_33 {i1 v1 i2 v2 i3 v3 i4 v4 i5 v5 i6 v6 i7 v7 i8 v8 i9 v9 i10 v10 i11 v11 i12 v12 g : Int} (p0 : rf_XP xt 30 [o] [i1, v1, i2, v2, i3, v3, i4, v4, i5, v5, i6, v6, i7, v7, i8, v8, i9, v9, i10, v10, i11, v11, i12, v12, g]) (q0 : 0 ≤ g) (q1 : g ≤ rf_BIG) (q2 : 0 ≤ i1) (q3 : i1 ≤ 374) (q4 : 0 ≤ i2) (q5 : i2 ≤ 374) (q6 : 0 ≤ i3) (q7 : i3 ≤ 374) (q8 : 0 ≤ i4) (q9 : i4 ≤ 374) (q10 : 0 ≤ i5) (q11 : i5 ≤ 374) (q12 : 0 ≤ i6) (q13 : i6 ≤ 374) (q14 : 0 ≤ i7) (q15 : i7 ≤ 374) (q16 : 0 ≤ i8) (q17 : i8 ≤ 374) (q18 : 0 ≤ i9) (q19 : i9 ≤ 374) (q20 : 0 ≤ i10) (q21 : i10 ≤ 374) (q22 : 0 ≤ i11) (q23 : i11 ≤ 374) (q24 : 0 ≤ i12) (q25 : i12 ≤ 374) : ∃ h, (0 ≤ h ∧ h ≤ rf_BIG) ∧ rf_XP xt 30 [o] [h] ∧ rf_XP xt 41 [] [h, i1, v1, i2, v2, i3, v3, i4, v4, i5, v5, i6, v6, i7, v7, i8, v8, i9, v9, i10, v10, i11, v11, i12, v12, g] := hl_nm p0 (hl_upb (hl_upb (hl_upb (hl_upb (hl_upb (hl_upb (hl_upb (hl_upb (hl_upb (hl_upb (hl_upb (hl_upb ⟨q0, q1⟩ q24 q25) q22 q23) q20 q21) q18 q19) q16 q17) q14 q15) q12 q13) q10 q11) q8 q9) q6 q7) q4 q5) q2 q3)
theorem hl_34 {h i1 v1 i2 v2 i3 v3 i4 v4 i5 v5 i6 v6 i7 v7 i8 v8 i9 v9 i10 v10 i11 v11 i12 v12 g : Int} (p0 : rf_XP xt 30 [o] [i1, v1, i2, v2, i3, v3, i4, v4, i5, v5, i6, v6, i7, v7, i8, v8, i9, v9, i10, v10, i11, v11, i12, v12, g]) (p1 : rf_XP xt 41 [] [h, i1, v1, i2, v2, i3, v3, i4, v4, i5, v5, i6, v6, i7, v7, i8, v8, i9, v9, i10, v10, i11, v11, i12, v12, g]) : rf_XP xt 30 [o] [h] := hl_nd p0 p1
theorem hl_35 {i j r q g : Int} (p0 : rf_XP xt 36 [] [i, r, g]) (p1 : rf_XP xt 36 [] [j, q, g]) (q0 : i ≤ j) (q1 : j ≤ i) : r ≤ q ∧ q ≤ r := by
  have e : i = j := by omega
  subst e
  have a : r = rf_dc i.toNat (rf_chn [g]) := p0.2
  have b : q = rf_dc i.toNat (rf_chn [g]) := p1.2
  omega
theorem hl_36 {o9 a b c d r q : Int} (p0 : rf_XP xt 35 [] [o9, a, b, r]) (p1 : rf_XP xt 35 [] [o9, c, d, q]) (q0 : a ≤ c) (q1 : c ≤ a) (q2 : b ≤ d) (q3 : d ≤ b) : r ≤ q ∧ q ≤ r := by
  have e : a = c := by omega
  have e2 : b = d := by omega
  subst e
  subst e2
  have z : r = rf_wop o9.toNat a b := p0
  have y : q = rf_wop o9.toNat a b := p1
  omega
theorem hl_37 {h b N : Int} (q0 : b + 1 ≤ N) : rf_XP xt 40 [] [2, h, b, N] := fun _ => q0
theorem hl_38 {h b N : Int} (q0 : h ≤ 0) : rf_XP xt 40 [] [2, h, b, N] := fun (e : h = 1) => by omega
theorem hl_39 {h b N : Int} (q0 : 2 ≤ h) : rf_XP xt 40 [] [2, h, b, N] := fun (e : h = 1) => by omega
theorem hl_40 {h b N M : Int} (p0 : rf_XP xt 40 [] [2, h, b, N]) (q0 : N ≤ M) : rf_XP xt 40 [] [2, h, b, M] := fun (e : h = 1) => by
  have a : h = 1 → b + 1 ≤ N := p0
  have := a e
  omega
theorem hl_41 {h b N : Int} (p0 : rf_XP xt 40 [] [2, h, b, N]) (q0 : h ≤ 1) (q1 : 1 ≤ h) : b + 1 ≤ N := by
  have a : h = 1 → b + 1 ≤ N := p0
  exact a (by omega)
theorem hl_42 {r k : Int} (q0 : 0 ≤ r) (q1 : r ≤ 7) (q2 : 0 ≤ k) (q3 : k ≤ 7) : (rf_XP xt 40 [] [3, r, k, 1] ∧ r ≤ 0 ∧ 0 ≤ r ∧ k ≤ 0 ∧ 0 ≤ k) ∨ (rf_XP xt 40 [] [3, r, k, 0] ∧ r ≤ 0 ∧ 0 ≤ r ∧ k ≤ 1 ∧ 1 ≤ k) ∨ (rf_XP xt 40 [] [3, r, k, 0] ∧ r ≤ 0 ∧ 0 ≤ r ∧ k ≤ 2 ∧ 2 ≤ k) ∨ (rf_XP xt 40 [] [3, r, k, 0] ∧ r ≤ 0 ∧ 0 ≤ r ∧ k ≤ 3 ∧ 3 ≤ k) ∨ (rf_XP xt 40 [] [3, r, k, 0] ∧ r ≤ 0 ∧ 0 ≤ r ∧ k ≤ 4 ∧ 4 ≤ k) ∨ (rf_XP xt 40 [] [3, r, k, 0] ∧ r ≤ 0 ∧ 0 ≤ r ∧ k ≤ 5 ∧ 5 ≤ k) ∨ (rf_XP xt 40 [] [3, r, k, 0] ∧ r ≤ 0 ∧ 0 ≤ r ∧ k ≤ 6 ∧ 6 ≤ k) ∨ (rf_XP xt 40 [] [3, r, k, 0] ∧ r ≤ 0 ∧ 0 ≤ r ∧ k ≤ 7 ∧ 7 ≤ k) ∨ (rf_XP xt 40 [] [3, r, k, 1] ∧ r ≤ 1 ∧ 1 ≤ r ∧ k ≤ 0 ∧ 0 ≤ k) ∨ (rf_XP xt 40 [] [3, r, k, 1] ∧ r ≤ 1 ∧ 1 ≤ r ∧ k ≤ 1 ∧ 1 ≤ k) ∨ (rf_XP xt 40 [] [3, r, k, 0] ∧ r ≤ 1 ∧ 1 ≤ r ∧ k ≤ 2 ∧ 2 ≤ k) ∨ (rf_XP xt 40 [] [3, r, k, 0] ∧ r ≤ 1 ∧ 1 ≤ r ∧ k ≤ 3 ∧ 3 ≤ k) ∨ (rf_XP xt 40 [] [3, r, k, 0] ∧ r ≤ 1 ∧ 1 ≤ r ∧ k ≤ 4 ∧ 4 ≤ k) ∨ (rf_XP xt 40 [] [3, r, k, 0] ∧ r ≤ 1 ∧ 1 ≤ r ∧ k ≤ 5 ∧ 5 ≤ k) ∨ (rf_XP xt 40 [] [3, r, k, 0] ∧ r ≤ 1 ∧ 1 ≤ r ∧ k ≤ 6 ∧ 6 ≤ k) ∨ (rf_XP xt 40 [] [3, r, k, 0] ∧ r ≤ 1 ∧ 1 ≤ r ∧ k ≤ 7 ∧ 7 ≤ k) ∨ (rf_XP xt 40 [] [3, r, k, 1] ∧ r ≤ 2 ∧ 2 ≤ r ∧ k ≤ 0 ∧ 0 ≤ k) ∨ (rf_XP xt 40 [] [3, r, k, 0] ∧ r ≤ 2 ∧ 2 ≤ r ∧ k ≤ 1 ∧ 1 ≤ k) ∨ (rf_XP xt 40 [] [3, r, k, 1] ∧ r ≤ 2 ∧ 2 ≤ r ∧ k ≤ 2 ∧ 2 ≤ k) ∨ (rf_XP xt 40 [] [3, r, k, 0] ∧ r ≤ 2 ∧ 2 ≤ r ∧ k ≤ 3 ∧ 3 ≤ k) ∨ (rf_XP xt 40 [] [3, r, k, 0] ∧ r ≤ 2 ∧ 2 ≤ r ∧ k ≤ 4 ∧ 4 ≤ k) ∨ (rf_XP xt 40 [] [3, r, k, 0] ∧ r ≤ 2 ∧ 2 ≤ r ∧ k ≤ 5 ∧ 5 ≤ k) ∨ (rf_XP xt 40 [] [3, r, k, 0] ∧ r ≤ 2 ∧ 2 ≤ r ∧ k ≤ 6 ∧ 6 ≤ k) ∨ (rf_XP xt 40 [] [3, r, k, 0] ∧ r ≤ 2 ∧ 2 ≤ r ∧ k ≤ 7 ∧ 7 ≤ k) ∨ (rf_XP xt 40 [] [3, r, k, 1] ∧ r ≤ 3 ∧ 3 ≤ r ∧ k ≤ 0 ∧ 0 ≤ k) ∨ (rf_XP xt 40 [] [3, r, k, 0] ∧ r ≤ 3 ∧ 3 ≤ r ∧ k ≤ 1 ∧ 1 ≤ k) ∨ (rf_XP xt 40 [] [3, r, k, 1] ∧ r ≤ 3 ∧ 3 ≤ r ∧ k ≤ 2 ∧ 2 ≤ k) ∨ (rf_XP xt 40 [] [3, r, k, 1] ∧ r ≤ 3 ∧ 3 ≤ r ∧ k ≤ 3 ∧ 3 ≤ k) ∨ (rf_XP xt 40 [] [3, r, k, 0] ∧ r ≤ 3 ∧ 3 ≤ r ∧ k ≤ 4 ∧ 4 ≤ k) ∨ (rf_XP xt 40 [] [3, r, k, 0] ∧ r ≤ 3 ∧ 3 ≤ r ∧ k ≤ 5 ∧ 5 ≤ k) ∨ (rf_XP xt 40 [] [3, r, k, 0] ∧ r ≤ 3 ∧ 3 ≤ r ∧ k ≤ 6 ∧ 6 ≤ k) ∨ (rf_XP xt 40 [] [3, r, k, 0] ∧ r ≤ 3 ∧ 3 ≤ r ∧ k ≤ 7 ∧ 7 ≤ k) ∨ (rf_XP xt 40 [] [3, r, k, 1] ∧ r ≤ 4 ∧ 4 ≤ r ∧ k ≤ 0 ∧ 0 ≤ k) ∨ (rf_XP xt 40 [] [3, r, k, 1] ∧ r ≤ 4 ∧ 4 ≤ r ∧ k ≤ 1 ∧ 1 ≤ k) ∨ (rf_XP xt 40 [] [3, r, k, 0] ∧ r ≤ 4 ∧ 4 ≤ r ∧ k ≤ 2 ∧ 2 ≤ k) ∨ (rf_XP xt 40 [] [3, r, k, 0] ∧ r ≤ 4 ∧ 4 ≤ r ∧ k ≤ 3 ∧ 3 ≤ k) ∨ (rf_XP xt 40 [] [3, r, k, 1] ∧ r ≤ 4 ∧ 4 ≤ r ∧ k ≤ 4 ∧ 4 ≤ k) ∨ (rf_XP xt 40 [] [3, r, k, 0] ∧ r ≤ 4 ∧ 4 ≤ r ∧ k ≤ 5 ∧ 5 ≤ k) ∨ (rf_XP xt 40 [] [3, r, k, 0] ∧ r ≤ 4 ∧ 4 ≤ r ∧ k ≤ 6 ∧ 6 ≤ k) ∨ (rf_XP xt 40 [] [3, r, k, 0] ∧ r ≤ 4 ∧ 4 ≤ r ∧ k ≤ 7 ∧ 7 ≤ k) ∨ (rf_XP xt 40 [] [3, r, k, 1] ∧ r ≤ 5 ∧ 5 ≤ r ∧ k ≤ 0 ∧ 0 ≤ k) ∨ (rf_XP xt 40 [] [3, r, k, 0] ∧ r ≤ 5 ∧ 5 ≤ r ∧ k ≤ 1 ∧ 1 ≤ k) ∨ (rf_XP xt 40 [] [3, r, k, 1] ∧ r ≤ 5 ∧ 5 ≤ r ∧ k ≤ 2 ∧ 2 ≤ k) ∨ (rf_XP xt 40 [] [3, r, k, 1] ∧ r ≤ 5 ∧ 5 ≤ r ∧ k ≤ 3 ∧ 3 ≤ k) ∨ (rf_XP xt 40 [] [3, r, k, 0] ∧ r ≤ 5 ∧ 5 ≤ r ∧ k ≤ 4 ∧ 4 ≤ k) ∨ (rf_XP xt 40 [] [3, r, k, 1] ∧ r ≤ 5 ∧ 5 ≤ r ∧ k ≤ 5 ∧ 5 ≤ k) ∨ (rf_XP xt 40 [] [3, r, k, 0] ∧ r ≤ 5 ∧ 5 ≤ r ∧ k ≤ 6 ∧ 6 ≤ k) ∨ (rf_XP xt 40 [] [3, r, k, 0] ∧ r ≤ 5 ∧ 5 ≤ r ∧ k ≤ 7 ∧ 7 ≤ k) ∨ (rf_XP xt 40 [] [3, r, k, 1] ∧ r ≤ 6 ∧ 6 ≤ r ∧ k ≤ 0 ∧ 0 ≤ k) ∨ (rf_XP xt 40 [] [3, r, k, 0] ∧ r ≤ 6 ∧ 6 ≤ r ∧ k ≤ 1 ∧ 1 ≤ k) ∨ (rf_XP xt 40 [] [3, r, k, 0] ∧ r ≤ 6 ∧ 6 ≤ r ∧ k ≤ 2 ∧ 2 ≤ k) ∨ (rf_XP xt 40 [] [3, r, k, 0] ∧ r ≤ 6 ∧ 6 ≤ r ∧ k ≤ 3 ∧ 3 ≤ k) ∨ (rf_XP xt 40 [] [3, r, k, 0] ∧ r ≤ 6 ∧ 6 ≤ r ∧ k ≤ 4 ∧ 4 ≤ k) ∨ (rf_XP xt 40 [] [3, r, k, 0] ∧ r ≤ 6 ∧ 6 ≤ r ∧ k ≤ 5 ∧ 5 ≤ k) ∨ (rf_XP xt 40 [] [3, r, k, 1] ∧ r ≤ 6 ∧ 6 ≤ r ∧ k ≤ 6 ∧ 6 ≤ k) ∨ (rf_XP xt 40 [] [3, r, k, 0] ∧ r ≤ 6 ∧ 6 ≤ r ∧ k ≤ 7 ∧ 7 ≤ k) ∨ (rf_XP xt 40 [] [3, r, k, 1] ∧ r ≤ 7 ∧ 7 ≤ r ∧ k ≤ 0 ∧ 0 ≤ k) ∨ (rf_XP xt 40 [] [3, r, k, 0] ∧ r ≤ 7 ∧ 7 ≤ r ∧ k ≤ 1 ∧ 1 ≤ k) ∨ (rf_XP xt 40 [] [3, r, k, 0] ∧ r ≤ 7 ∧ 7 ≤ r ∧ k ≤ 2 ∧ 2 ≤ k) ∨ (rf_XP xt 40 [] [3, r, k, 0] ∧ r ≤ 7 ∧ 7 ≤ r ∧ k ≤ 3 ∧ 3 ≤ k) ∨ (rf_XP xt 40 [] [3, r, k, 0] ∧ r ≤ 7 ∧ 7 ≤ r ∧ k ≤ 4 ∧ 4 ≤ k) ∨ (rf_XP xt 40 [] [3, r, k, 0] ∧ r ≤ 7 ∧ 7 ≤ r ∧ k ≤ 5 ∧ 5 ≤ k) ∨ (rf_XP xt 40 [] [3, r, k, 1] ∧ r ≤ 7 ∧ 7 ≤ r ∧ k ≤ 6 ∧ 6 ≤ k) ∨ (rf_XP xt 40 [] [3, r, k, 1] ∧ r ≤ 7 ∧ 7 ≤ r ∧ k ≤ 7 ∧ 7 ≤ k) := by
  have hr : r = 0 ∨ r = 1 ∨ r = 2 ∨ r = 3 ∨ r = 4 ∨ r = 5 ∨ r = 6 ∨ r = 7 := by omega
  have hk : k = 0 ∨ k = 1 ∨ k = 2 ∨ k = 3 ∨ k = 4 ∨ k = 5 ∨ k = 6 ∨ k = 7 := by omega
  rcases hr with rfl | rfl | rfl | rfl | rfl | rfl | rfl | rfl <;> rcases hk with rfl | rfl | rfl | rfl | rfl | rfl | rfl | rfl
  · exact Or.inl ⟨rfl, by decide, by decide, by decide, by decide⟩
  · exact Or.inr (Or.inl ⟨rfl, by decide, by decide, by decide, by decide⟩)
  · exact Or.inr (Or.inr (Or.inl ⟨rfl, by decide, by decide, by decide, by decide⟩))
  · exact Or.inr (Or.inr (Or.inr (Or.inl ⟨rfl, by decide, by decide, by decide, by decide⟩)))
  · exact Or.inr (Or.inr (Or.inr (Or.inr (Or.inl ⟨rfl, by decide, by decide, by decide, by decide⟩))))
  · exact Or.inr (Or.inr (Or.inr (Or.inr (Or.inr (Or.inl ⟨rfl, by decide, by decide, by decide, by decide⟩)))))
  · exact Or.inr (Or.inr (Or.inr (Or.inr (Or.inr (Or.inr (Or.inl ⟨rfl, by decide, by decide, by decide, by decide⟩))))))
  · exact Or.inr (Or.inr (Or.inr (Or.inr (Or.inr (Or.inr (Or.inr (Or.inl ⟨rfl, by decide, by decide, by decide, by decide⟩)))))))
  · exact Or.inr (Or.inr (Or.inr (Or.inr (Or.inr (Or.inr (Or.inr (Or.inr (Or.inl ⟨rfl, by decide, by decide, by decide, by decide⟩))))))))
  · exact Or.inr (Or.inr (Or.inr (Or.inr (Or.inr (Or.inr (Or.inr (Or.inr (Or.inr (Or.inl ⟨rfl, by decide, by decide, by decide, by decide⟩)))))))))
  · exact Or.inr (Or.inr (Or.inr (Or.inr (Or.inr (Or.inr (Or.inr (Or.inr (Or.inr (Or.inr (Or.inl ⟨rfl, by decide, by decide, by decide, by decide⟩))))))))))
  · exact Or.inr (Or.inr (Or.inr (Or.inr (Or.inr (Or.inr (Or.inr (Or.inr (Or.inr (Or.inr (Or.inr (Or.inl ⟨rfl, by decide, by decide, by decide, by decide⟩)))))))))))
  · exact Or.inr (Or.inr (Or.inr (Or.inr (Or.inr (Or.inr (Or.inr (Or.inr (Or.inr (Or.inr (Or.inr (Or.inr (Or.inl ⟨rfl, by decide, by decide, by decide, by decide⟩))))))))))))
  · exact Or.inr (Or.inr (Or.inr (Or.inr (Or.inr (Or.inr (Or.inr (Or.inr (Or.inr (Or.inr (Or.inr (Or.inr (Or.inr (Or.inl ⟨rfl, by decide, by decide, by decide, by decide⟩)))))))))))))
  · exact Or.inr (Or.inr (Or.inr (Or.inr (Or.inr (Or.inr (Or.inr (Or.inr (Or.inr (Or.inr (Or.inr (Or.inr (Or.inr (Or.inr (Or.inl ⟨rfl, by decide, by decide, by decide, by decide⟩))))))))))))))
  · exact Or.inr (Or.inr (Or.inr (Or.inr (Or.inr (Or.inr (Or.inr (Or.inr (Or.inr (Or.inr (Or.inr (Or.inr (Or.inr (Or.inr (Or.inr (Or.inl ⟨rfl, by decide, by decide, by decide, by decide⟩)))))))))))))))
  · exact Or.inr (Or.inr (Or.inr (Or.inr (Or.inr (Or.inr (Or.inr (Or.inr (Or.inr (Or.inr (Or.inr (Or.inr (Or.inr (Or.inr (Or.inr (Or.inr (Or.inl ⟨rfl, by decide, by decide, by decide, by decide⟩))))))))))))))))
  · exact Or.inr (Or.inr (Or.inr (Or.inr (Or.inr (Or.inr (Or.inr (Or.inr (Or.inr (Or.inr (Or.inr (Or.inr (Or.inr (Or.inr (Or.inr (Or.inr (Or.inr (Or.inl ⟨rfl, by decide, by decide, by decide, by decide⟩)))))))))))))))))
  · exact Or.inr (Or.inr (Or.inr (Or.inr (Or.inr (Or.inr (Or.inr (Or.inr (Or.inr (Or.inr (Or.inr (Or.inr (Or.inr (Or.inr (Or.inr (Or.inr (Or.inr (Or.inr (Or.inl ⟨rfl, by decide, by decide, by decide, by decide⟩))))))))))))))))))
  · exact Or.inr (Or.inr (Or.inr (Or.inr (Or.inr (Or.inr (Or.inr (Or.inr (Or.inr (Or.inr (Or.inr (Or.inr (Or.inr (Or.inr (Or.inr (Or.inr (Or.inr (Or.inr (Or.inr (Or.inl ⟨rfl, by decide, by decide, by decide, by decide⟩)))))))))))))))))))
  · exact Or.inr (Or.inr (Or.inr (Or.inr (Or.inr (Or.inr (Or.inr (Or.inr (Or.inr (Or.inr (Or.inr (Or.inr (Or.inr (Or.inr (Or.inr (Or.inr (Or.inr (Or.inr (Or.inr (Or.inr (Or.inl ⟨rfl, by decide, by decide, by decide, by decide⟩))))))))))))))))))))
  · exact Or.inr (Or.inr (Or.inr (Or.inr (Or.inr (Or.inr (Or.inr (Or.inr (Or.inr (Or.inr (Or.inr (Or.inr (Or.inr (Or.inr (Or.inr (Or.inr (Or.inr (Or.inr (Or.inr (Or.inr (Or.inr (Or.inl ⟨rfl, by decide, by decide, by decide, by decide⟩)))))))))))))))))))))
  · exact Or.inr (Or.inr (Or.inr (Or.inr (Or.inr (Or.inr (Or.inr (Or.inr (Or.inr (Or.inr (Or.inr (Or.inr (Or.inr (Or.inr (Or.inr (Or.inr (Or.inr (Or.inr (Or.inr (Or.inr (Or.inr (Or.inr (Or.inl ⟨rfl, by decide, by decide, by decide, by decide⟩))))))))))))))))))))))
  · exact Or.inr (Or.inr (Or.inr (Or.inr (Or.inr (Or.inr (Or.inr (Or.inr (Or.inr (Or.inr (Or.inr (Or.inr (Or.inr (Or.inr (Or.inr (Or.inr (Or.inr (Or.inr (Or.inr (Or.inr (Or.inr (Or.inr (Or.inr (Or.inl ⟨rfl, by decide, by decide, by decide, by decide⟩)))))))))))))))))))))))
  · exact Or.inr (Or.inr (Or.inr (Or.inr (Or.inr (Or.inr (Or.inr (Or.inr (Or.inr (Or.inr (Or.inr (Or.inr (Or.inr (Or.inr (Or.inr (Or.inr (Or.inr (Or.inr (Or.inr (Or.inr (Or.inr (Or.inr (Or.inr (Or.inr (Or.inl ⟨rfl, by decide, by decide, by decide, by decide⟩))))))))))))))))))))))))
  · exact Or.inr (Or.inr (Or.inr (Or.inr (Or.inr (Or.inr (Or.inr (Or.inr (Or.inr (Or.inr (Or.inr (Or.inr (Or.inr (Or.inr (Or.inr (Or.inr (Or.inr (Or.inr (Or.inr (Or.inr (Or.inr (Or.inr (Or.inr (Or.inr (Or.inr (Or.inl ⟨rfl, by decide, by decide, by decide, by decide⟩)))))))))))))))))))))))))
  · exact Or.inr (Or.inr (Or.inr (Or.inr (Or.inr (Or.inr (Or.inr (Or.inr (Or.inr (Or.inr (Or.inr (Or.inr (Or.inr (Or.inr (Or.inr (Or.inr (Or.inr (Or.inr (Or.inr (Or.inr (Or.inr (Or.inr (Or.inr (Or.inr (Or.inr (Or.inr (Or.inl ⟨rfl, by decide, by decide, by decide, by decide⟩))))))))))))))))))))))))))
  · exact Or.inr (Or.inr (Or.inr (Or.inr (Or.inr (Or.inr (Or.inr (Or.inr (Or.inr (Or.inr (Or.inr (Or.inr (Or.inr (Or.inr (Or.inr (Or.inr (Or.inr (Or.inr (Or.inr (Or.inr (Or.inr (Or.inr (Or.inr (Or.inr (Or.inr (Or.inr (Or.inr (Or.inl ⟨rfl, by decide, by decide, by decide, by decide⟩)))))))))))))))))))))))))))
  · exact Or.inr (Or.inr (Or.inr (Or.inr (Or.inr (Or.inr (Or.inr (Or.inr (Or.inr (Or.inr (Or.inr (Or.inr (Or.inr (Or.inr (Or.inr (Or.inr (Or.inr (Or.inr (Or.inr (Or.inr (Or.inr (Or.inr (Or.inr (Or.inr (Or.inr (Or.inr (Or.inr (Or.inr (Or.inl ⟨rfl, by decide, by decide, by decide, by decide⟩))))))))))))))))))))))))))))
  · exact Or.inr (Or.inr (Or.inr (Or.inr (Or.inr (Or.inr (Or.inr (Or.inr (Or.inr (Or.inr (Or.inr (Or.inr (Or.inr (Or.inr (Or.inr (Or.inr (Or.inr (Or.inr (Or.inr (Or.inr (Or.inr (Or.inr (Or.inr (Or.inr (Or.inr (Or.inr (Or.inr (Or.inr (Or.inr (Or.inl ⟨rfl, by decide, by decide, by decide, by decide⟩)))))))))))))))))))))))))))))
  · exact Or.inr (Or.inr (Or.inr (Or.inr (Or.inr (Or.inr (Or.inr (Or.inr (Or.inr (Or.inr (Or.inr (Or.inr (Or.inr (Or.inr (Or.inr (Or.inr (Or.inr (Or.inr (Or.inr (Or.inr (Or.inr (Or.inr (Or.inr (Or.inr (Or.inr (Or.inr (Or.inr (Or.inr (Or.inr (Or.inr (Or.inl ⟨rfl, by decide, by decide, by decide, by decide⟩))))))))))))))))))))))))))))))
  · exact Or.inr (Or.inr (Or.inr (Or.inr (Or.inr (Or.inr (Or.inr (Or.inr (Or.inr (Or.inr (Or.inr (Or.inr (Or.inr (Or.inr (Or.inr (Or.inr (Or.inr (Or.inr (Or.inr (Or.inr (Or.inr (Or.inr (Or.inr (Or.inr (Or.inr (Or.inr (Or.inr (Or.inr (Or.inr (Or.inr (Or.inr (Or.inl ⟨rfl, by decide, by decide, by decide, by decide⟩)))))))))))))))))))))))))))))))
  · exact Or.inr (Or.inr (Or.inr (Or.inr (Or.inr (Or.inr (Or.inr (Or.inr (Or.inr (Or.inr (Or.inr (Or.inr (Or.inr (Or.inr (Or.inr (Or.inr (Or.inr (Or.inr (Or.inr (Or.inr (Or.inr (Or.inr (Or.inr (Or.inr (Or.inr (Or.inr (Or.inr (Or.inr (Or.inr (Or.inr (Or.inr (Or.inr (Or.inl ⟨rfl, by decide, by decide, by decide, by decide⟩))))))))))))))))))))))))))))))))
  · exact Or.inr (Or.inr (Or.inr (Or.inr (Or.inr (Or.inr (Or.inr (Or.inr (Or.inr (Or.inr (Or.inr (Or.inr (Or.inr (Or.inr (Or.inr (Or.inr (Or.inr (Or.inr (Or.inr (Or.inr (Or.inr (Or.inr (Or.inr (Or.inr (Or.inr (Or.inr (Or.inr (Or.inr (Or.inr (Or.inr (Or.inr (Or.inr (Or.inr (Or.inl ⟨rfl, by decide, by decide, by decide, by decide⟩)))))))))))))))))))))))))))))))))
  · exact Or.inr (Or.inr (Or.inr (Or.inr (Or.inr (Or.inr (Or.inr (Or.inr (Or.inr (Or.inr (Or.inr (Or.inr (Or.inr (Or.inr (Or.inr (Or.inr (Or.inr (Or.inr (Or.inr (Or.inr (Or.inr (Or.inr (Or.inr (Or.inr (Or.inr (Or.inr (Or.inr (Or.inr (Or.inr (Or.inr (Or.inr (Or.inr (Or.inr (Or.inr (Or.inl ⟨rfl, by decide, by decide, by decide, by decide⟩))))))))))))))))))))))))))))))))))
  · exact Or.inr (Or.inr (Or.inr (Or.inr (Or.inr (Or.inr (Or.inr (Or.inr (Or.inr (Or.inr (Or.inr (Or.inr (Or.inr (Or.inr (Or.inr (Or.inr (Or.inr (Or.inr (Or.inr (Or.inr (Or.inr (Or.inr (Or.inr (Or.inr (Or.inr (Or.inr (Or.inr (Or.inr (Or.inr (Or.inr (Or.inr (Or.inr (Or.inr (Or.inr (Or.inr (Or.inl ⟨rfl, by decide, by decide, by decide, by decide⟩)))))))))))))))))))))))))))))))))))
  · exact Or.inr (Or.inr (Or.inr (Or.inr (Or.inr (Or.inr (Or.inr (Or.inr (Or.inr (Or.inr (Or.inr (Or.inr (Or.inr (Or.inr (Or.inr (Or.inr (Or.inr (Or.inr (Or.inr (Or.inr (Or.inr (Or.inr (Or.inr (Or.inr (Or.inr (Or.inr (Or.inr (Or.inr (Or.inr (Or.inr (Or.inr (Or.inr (Or.inr (Or.inr (Or.inr (Or.inr (Or.inl ⟨rfl, by decide, by decide, by decide, by decide⟩))))))))))))))))))))))))))))))))))))
  · exact Or.inr (Or.inr (Or.inr (Or.inr (Or.inr (Or.inr (Or.inr (Or.inr (Or.inr (Or.inr (Or.inr (Or.inr (Or.inr (Or.inr (Or.inr (Or.inr (Or.inr (Or.inr (Or.inr (Or.inr (Or.inr (Or.inr (Or.inr (Or.inr (Or.inr (Or.inr (Or.inr (Or.inr (Or.inr (Or.inr (Or.inr (Or.inr (Or.inr (Or.inr (Or.inr (Or.inr (Or.inr (Or.inl ⟨rfl, by decide, by decide, by decide, by decide⟩)))))))))))))))))))))))))))))))))))))
  · exact Or.inr (Or.inr (Or.inr (Or.inr (Or.inr (Or.inr (Or.inr (Or.inr (Or.inr (Or.inr (Or.inr (Or.inr (Or.inr (Or.inr (Or.inr (Or.inr (Or.inr (Or.inr (Or.inr (Or.inr (Or.inr (Or.inr (Or.inr (Or.inr (Or.inr (Or.inr (Or.inr (Or.inr (Or.inr (Or.inr (Or.inr (Or.inr (Or.inr (Or.inr (Or.inr (Or.inr (Or.inr (Or.inr (Or.inl ⟨rfl, by decide, by decide, by decide, by decide⟩))))))))))))))))))))))))))))))))))))))
  · exact Or.inr (Or.inr (Or.inr (Or.inr (Or.inr (Or.inr (Or.inr (Or.inr (Or.inr (Or.inr (Or.inr (Or.inr (Or.inr (Or.inr (Or.inr (Or.inr (Or.inr (Or.inr (Or.inr (Or.inr (Or.inr (Or.inr (Or.inr (Or.inr (Or.inr (Or.inr (Or.inr (Or.inr (Or.inr (Or.inr (Or.inr (Or.inr (Or.inr (Or.inr (Or.inr (Or.inr (Or.inr (Or.inr (Or.inr (Or.inl ⟨rfl, by decide, by decide, by decide, by decide⟩)))))))))))))))))))))))))))))))))))))))
  · exact Or.inr (Or.inr (Or.inr (Or.inr (Or.inr (Or.inr (Or.inr (Or.inr (Or.inr (Or.inr (Or.inr (Or.inr (Or.inr (Or.inr (Or.inr (Or.inr (Or.inr (Or.inr (Or.inr (Or.inr (Or.inr (Or.inr (Or.inr (Or.inr (Or.inr (Or.inr (Or.inr (Or.inr (Or.inr (Or.inr (Or.inr (Or.inr (Or.inr (Or.inr (Or.inr (Or.inr (Or.inr (Or.inr (Or.inr (Or.inr (Or.inl ⟨rfl, by decide, by decide, by decide, by decide⟩))))))))))))))))))))))))))))))))))))))))
  · exact Or.inr (Or.inr (Or.inr (Or.inr (Or.inr (Or.inr (Or.inr (Or.inr (Or.inr (Or.inr (Or.inr (Or.inr (Or.inr (Or.inr (Or.inr (Or.inr (Or.inr (Or.inr (Or.inr (Or.inr (Or.inr (Or.inr (Or.inr (Or.inr (Or.inr (Or.inr (Or.inr (Or.inr (Or.inr (Or.inr (Or.inr (Or.inr (Or.inr (Or.inr (Or.inr (Or.inr (Or.inr (Or.inr (Or.inr (Or.inr (Or.inr (Or.inl ⟨rfl, by decide, by decide, by decide, by decide⟩)))))))))))))))))))))))))))))))))))))))))
  · exact Or.inr (Or.inr (Or.inr (Or.inr (Or.inr (Or.inr (Or.inr (Or.inr (Or.inr (Or.inr (Or.inr (Or.inr (Or.inr (Or.inr (Or.inr (Or.inr (Or.inr (Or.inr (Or.inr (Or.inr (Or.inr (Or.inr (Or.inr (Or.inr (Or.inr (Or.inr (Or.inr (Or.inr (Or.inr (Or.inr (Or.inr (Or.inr (Or.inr (Or.inr (Or.inr (Or.inr (Or.inr (Or.inr (Or.inr (Or.inr (Or.inr (Or.inr (Or.inl ⟨rfl, by decide, by decide, by decide, by decide⟩))))))))))))))))))))))))))))))))))))))))))
  · exact Or.inr (Or.inr (Or.inr (Or.inr (Or.inr (Or.inr (Or.inr (Or.inr (Or.inr (Or.inr (Or.inr (Or.inr (Or.inr (Or.inr (Or.inr (Or.inr (Or.inr (Or.inr (Or.inr (Or.inr (Or.inr (Or.inr (Or.inr (Or.inr (Or.inr (Or.inr (Or.inr (Or.inr (Or.inr (Or.inr (Or.inr (Or.inr (Or.inr (Or.inr (Or.inr (Or.inr (Or.inr (Or.inr (Or.inr (Or.inr (Or.inr (Or.inr (Or.inr (Or.inl ⟨rfl, by decide, by decide, by decide, by decide⟩)))))))))))))))))))))))))))))))))))))))))))
  · exact Or.inr (Or.inr (Or.inr (Or.inr (Or.inr (Or.inr (Or.inr (Or.inr (Or.inr (Or.inr (Or.inr (Or.inr (Or.inr (Or.inr (Or.inr (Or.inr (Or.inr (Or.inr (Or.inr (Or.inr (Or.inr (Or.inr (Or.inr (Or.inr (Or.inr (Or.inr (Or.inr (Or.inr (Or.inr (Or.inr (Or.inr (Or.inr (Or.inr (Or.inr (Or.inr (Or.inr (Or.inr (Or.inr (Or.inr (Or.inr (Or.inr (Or.inr (Or.inr (Or.inr (Or.inl ⟨rfl, by decide, by decide, by decide, by decide⟩))))))))))))))))))))))))))))))))))))))))))))
  · exact Or.inr (Or.inr (Or.inr (Or.inr (Or.inr (Or.inr (Or.inr (Or.inr (Or.inr (Or.inr (Or.inr (Or.inr (Or.inr (Or.inr (Or.inr (Or.inr (Or.inr (Or.inr (Or.inr (Or.inr (Or.inr (Or.inr (Or.inr (Or.inr (Or.inr (Or.inr (Or.inr (Or.inr (Or.inr (Or.inr (Or.inr (Or.inr (Or.inr (Or.inr (Or.inr (Or.inr (Or.inr (Or.inr (Or.inr (Or.inr (Or.inr (Or.inr (Or.inr (Or.inr (Or.inr (Or.inl ⟨rfl, by decide, by decide, by decide, by decide⟩)))))))))))))))))))))))))))))))))))))))))))))
  · exact Or.inr (Or.inr (Or.inr (Or.inr (Or.inr (Or.inr (Or.inr (Or.inr (Or.inr (Or.inr (Or.inr (Or.inr (Or.inr (Or.inr (Or.inr (Or.inr (Or.inr (Or.inr (Or.inr (Or.inr (Or.inr (Or.inr (Or.inr (Or.inr (Or.inr (Or.inr (Or.inr (Or.inr (Or.inr (Or.inr (Or.inr (Or.inr (Or.inr (Or.inr (Or.inr (Or.inr (Or.inr (Or.inr (Or.inr (Or.inr (Or.inr (Or.inr (Or.inr (Or.inr (Or.inr (Or.inr (Or.inl ⟨rfl, by decide, by decide, by decide, by decide⟩))))))))))))))))))))))))))))))))))))))))))))))
  · exact Or.inr (Or.inr (Or.inr (Or.inr (Or.inr (Or.inr (Or.inr (Or.inr (Or.inr (Or.inr (Or.inr (Or.inr (Or.inr (Or.inr (Or.inr (Or.inr (Or.inr (Or.inr (Or.inr (Or.inr (Or.inr (Or.inr (Or.inr (Or.inr (Or.inr (Or.inr (Or.inr (Or.inr (Or.inr (Or.inr (Or.inr (Or.inr (Or.inr (Or.inr (Or.inr (Or.inr (Or.inr (Or.inr (Or.inr (Or.inr (Or.inr (Or.inr (Or.inr (Or.inr (Or.inr (Or.inr (Or.inr (Or.inl ⟨rfl, by decide, by decide, by decide, by decide⟩)))))))))))))))))))))))))))))))))))))))))))))))
  · exact Or.inr (Or.inr (Or.inr (Or.inr (Or.inr (Or.inr (Or.inr (Or.inr (Or.inr (Or.inr (Or.inr (Or.inr (Or.inr (Or.inr (Or.inr (Or.inr (Or.inr (Or.inr (Or.inr (Or.inr (Or.inr (Or.inr (Or.inr (Or.inr (Or.inr (Or.inr (Or.inr (Or.inr (Or.inr (Or.inr (Or.inr (Or.inr (Or.inr (Or.inr (Or.inr (Or.inr (Or.inr (Or.inr (Or.inr (Or.inr (Or.inr (Or.inr (Or.inr (Or.inr (Or.inr (Or.inr (Or.inr (Or.inr (Or.inl ⟨rfl, by decide, by decide, by decide, by decide⟩))))))))))))))))))))))))))))))))))))))))))))))))
  · exact Or.inr (Or.inr (Or.inr (Or.inr (Or.inr (Or.inr (Or.inr (Or.inr (Or.inr (Or.inr (Or.inr (Or.inr (Or.inr (Or.inr (Or.inr (Or.inr (Or.inr (Or.inr (Or.inr (Or.inr (Or.inr (Or.inr (Or.inr (Or.inr (Or.inr (Or.inr (Or.inr (Or.inr (Or.inr (Or.inr (Or.inr (Or.inr (Or.inr (Or.inr (Or.inr (Or.inr (Or.inr (Or.inr (Or.inr (Or.inr (Or.inr (Or.inr (Or.inr (Or.inr (Or.inr (Or.inr (Or.inr (Or.inr (Or.inr (Or.inl ⟨rfl, by decide, by decide, by decide, by decide⟩)))))))))))))))))))))))))))))))))))))))))))))))))
  · exact Or.inr (Or.inr (Or.inr (Or.inr (Or.inr (Or.inr (Or.inr (Or.inr (Or.inr (Or.inr (Or.inr (Or.inr (Or.inr (Or.inr (Or.inr (Or.inr (Or.inr (Or.inr (Or.inr (Or.inr (Or.inr (Or.inr (Or.inr (Or.inr (Or.inr (Or.inr (Or.inr (Or.inr (Or.inr (Or.inr (Or.inr (Or.inr (Or.inr (Or.inr (Or.inr (Or.inr (Or.inr (Or.inr (Or.inr (Or.inr (Or.inr (Or.inr (Or.inr (Or.inr (Or.inr (Or.inr (Or.inr (Or.inr (Or.inr (Or.inr (Or.inl ⟨rfl, by decide, by decide, by decide, by decide⟩))))))))))))))))))))))))))))))))))))))))))))))))))
  · exact Or.inr (Or.inr (Or.inr (Or.inr (Or.inr (Or.inr (Or.inr (Or.inr (Or.inr (Or.inr (Or.inr (Or.inr (Or.inr (Or.inr (Or.inr (Or.inr (Or.inr (Or.inr (Or.inr (Or.inr (Or.inr (Or.inr (Or.inr (Or.inr (Or.inr (Or.inr (Or.inr (Or.inr (Or.inr (Or.inr (Or.inr (Or.inr (Or.inr (Or.inr (Or.inr (Or.inr (Or.inr (Or.inr (Or.inr (Or.inr (Or.inr (Or.inr (Or.inr (Or.inr (Or.inr (Or.inr (Or.inr (Or.inr (Or.inr (Or.inr (Or.inr (Or.inl ⟨rfl, by decide, by decide, by decide, by decide⟩)))))))))))))))))))))))))))))))))))))))))))))))))))
  · exact Or.inr (Or.inr (Or.inr (Or.inr (Or.inr (Or.inr (Or.inr (Or.inr (Or.inr (Or.inr (Or.inr (Or.inr (Or.inr (Or.inr (Or.inr (Or.inr (Or.inr (Or.inr (Or.inr (Or.inr (Or.inr (Or.inr (Or.inr (Or.inr (Or.inr (Or.inr (Or.inr (Or.inr (Or.inr (Or.inr (Or.inr (Or.inr (Or.inr (Or.inr (Or.inr (Or.inr (Or.inr (Or.inr (Or.inr (Or.inr (Or.inr (Or.inr (Or.inr (Or.inr (Or.inr (Or.inr (Or.inr (Or.inr (Or.inr (Or.inr (Or.inr (Or.inr (Or.inl ⟨rfl, by decide, by decide, by decide, by decide⟩))))))))))))))))))))))))))))))))))))))))))))))))))))
  · exact Or.inr (Or.inr (Or.inr (Or.inr (Or.inr (Or.inr (Or.inr (Or.inr (Or.inr (Or.inr (Or.inr (Or.inr (Or.inr (Or.inr (Or.inr (Or.inr (Or.inr (Or.inr (Or.inr (Or.inr (Or.inr (Or.inr (Or.inr (Or.inr (Or.inr (Or.inr (Or.inr (Or.inr (Or.inr (Or.inr (Or.inr (Or.inr (Or.inr (Or.inr (Or.inr (Or.inr (Or.inr (Or.inr (Or.inr (Or.inr (Or.inr (Or.inr (Or.inr (Or.inr (Or.inr (Or.inr (Or.inr (Or.inr (Or.inr (Or.inr (Or.inr (Or.inr (Or.inr (Or.inl ⟨rfl, by decide, by decide, by decide, by decide⟩)))))))))))))))))))))))))))))))))))))))))))))))))))))
  · exact Or.inr (Or.inr (Or.inr (Or.inr (Or.inr (Or.inr (Or.inr (Or.inr (Or.inr (Or.inr (Or.inr (Or.inr (Or.inr (Or.inr (Or.inr (Or.inr (Or.inr (Or.inr (Or.inr (Or.inr (Or.inr (Or.inr (Or.inr (Or.inr (Or.inr (Or.inr (Or.inr (Or.inr (Or.inr (Or.inr (Or.inr (Or.inr (Or.inr (Or.inr (Or.inr (Or.inr (Or.inr (Or.inr (Or.inr (Or.inr (Or.inr (Or.inr (Or.inr (Or.inr (Or.inr (Or.inr (Or.inr (Or.inr (Or.inr (Or.inr (Or.inr (Or.inr (Or.inr (Or.inr (Or.inl ⟨rfl, by decide, by decide, by decide, by decide⟩))))))))))))))))))))))))))))))))))))))))))))))))))))))
  · exact Or.inr (Or.inr (Or.inr (Or.inr (Or.inr (Or.inr (Or.inr (Or.inr (Or.inr (Or.inr (Or.inr (Or.inr (Or.inr (Or.inr (Or.inr (Or.inr (Or.inr (Or.inr (Or.inr (Or.inr (Or.inr (Or.inr (Or.inr (Or.inr (Or.inr (Or.inr (Or.inr (Or.inr (Or.inr (Or.inr (Or.inr (Or.inr (Or.inr (Or.inr (Or.inr (Or.inr (Or.inr (Or.inr (Or.inr (Or.inr (Or.inr (Or.inr (Or.inr (Or.inr (Or.inr (Or.inr (Or.inr (Or.inr (Or.inr (Or.inr (Or.inr (Or.inr (Or.inr (Or.inr (Or.inr (Or.inl ⟨rfl, by decide, by decide, by decide, by decide⟩)))))))))))))))))))))))))))))))))))))))))))))))))))))))
  · exact Or.inr (Or.inr (Or.inr (Or.inr (Or.inr (Or.inr (Or.inr (Or.inr (Or.inr (Or.inr (Or.inr (Or.inr (Or.inr (Or.inr (Or.inr (Or.inr (Or.inr (Or.inr (Or.inr (Or.inr (Or.inr (Or.inr (Or.inr (Or.inr (Or.inr (Or.inr (Or.inr (Or.inr (Or.inr (Or.inr (Or.inr (Or.inr (Or.inr (Or.inr (Or.inr (Or.inr (Or.inr (Or.inr (Or.inr (Or.inr (Or.inr (Or.inr (Or.inr (Or.inr (Or.inr (Or.inr (Or.inr (Or.inr (Or.inr (Or.inr (Or.inr (Or.inr (Or.inr (Or.inr (Or.inr (Or.inr (Or.inl ⟨rfl, by decide, by decide, by decide, by decide⟩))))))))))))))))))))))))))))))))))))))))))))))))))))))))
  · exact Or.inr (Or.inr (Or.inr (Or.inr (Or.inr (Or.inr (Or.inr (Or.inr (Or.inr (Or.inr (Or.inr (Or.inr (Or.inr (Or.inr (Or.inr (Or.inr (Or.inr (Or.inr (Or.inr (Or.inr (Or.inr (Or.inr (Or.inr (Or.inr (Or.inr (Or.inr (Or.inr (Or.inr (Or.inr (Or.inr (Or.inr (Or.inr (Or.inr (Or.inr (Or.inr (Or.inr (Or.inr (Or.inr (Or.inr (Or.inr (Or.inr (Or.inr (Or.inr (Or.inr (Or.inr (Or.inr (Or.inr (Or.inr (Or.inr (Or.inr (Or.inr (Or.inr (Or.inr (Or.inr (Or.inr (Or.inr (Or.inr (Or.inl ⟨rfl, by decide, by decide, by decide, by decide⟩)))))))))))))))))))))))))))))))))))))))))))))))))))))))))
  · exact Or.inr (Or.inr (Or.inr (Or.inr (Or.inr (Or.inr (Or.inr (Or.inr (Or.inr (Or.inr (Or.inr (Or.inr (Or.inr (Or.inr (Or.inr (Or.inr (Or.inr (Or.inr (Or.inr (Or.inr (Or.inr (Or.inr (Or.inr (Or.inr (Or.inr (Or.inr (Or.inr (Or.inr (Or.inr (Or.inr (Or.inr (Or.inr (Or.inr (Or.inr (Or.inr (Or.inr (Or.inr (Or.inr (Or.inr (Or.inr (Or.inr (Or.inr (Or.inr (Or.inr (Or.inr (Or.inr (Or.inr (Or.inr (Or.inr (Or.inr (Or.inr (Or.inr (Or.inr (Or.inr (Or.inr (Or.inr (Or.inr (Or.inr (Or.inl ⟨rfl, by decide, by decide, by decide, by decide⟩))))))))))))))))))))))))))))))))))))))))))))))))))))))))))
  · exact Or.inr (Or.inr (Or.inr (Or.inr (Or.inr (Or.inr (Or.inr (Or.inr (Or.inr (Or.inr (Or.inr (Or.inr (Or.inr (Or.inr (Or.inr (Or.inr (Or.inr (Or.inr (Or.inr (Or.inr (Or.inr (Or.inr (Or.inr (Or.inr (Or.inr (Or.inr (Or.inr (Or.inr (Or.inr (Or.inr (Or.inr (Or.inr (Or.inr (Or.inr (Or.inr (Or.inr (Or.inr (Or.inr (Or.inr (Or.inr (Or.inr (Or.inr (Or.inr (Or.inr (Or.inr (Or.inr (Or.inr (Or.inr (Or.inr (Or.inr (Or.inr (Or.inr (Or.inr (Or.inr (Or.inr (Or.inr (Or.inr (Or.inr (Or.inr (Or.inl ⟨rfl, by decide, by decide, by decide, by decide⟩)))))))))))))))))))))))))))))))))))))))))))))))))))))))))))
  · exact Or.inr (Or.inr (Or.inr (Or.inr (Or.inr (Or.inr (Or.inr (Or.inr (Or.inr (Or.inr (Or.inr (Or.inr (Or.inr (Or.inr (Or.inr (Or.inr (Or.inr (Or.inr (Or.inr (Or.inr (Or.inr (Or.inr (Or.inr (Or.inr (Or.inr (Or.inr (Or.inr (Or.inr (Or.inr (Or.inr (Or.inr (Or.inr (Or.inr (Or.inr (Or.inr (Or.inr (Or.inr (Or.inr (Or.inr (Or.inr (Or.inr (Or.inr (Or.inr (Or.inr (Or.inr (Or.inr (Or.inr (Or.inr (Or.inr (Or.inr (Or.inr (Or.inr (Or.inr (Or.inr (Or.inr (Or.inr (Or.inr (Or.inr (Or.inr (Or.inr (Or.inl ⟨rfl, by decide, by decide, by decide, by decide⟩))))))))))))))))))))))))))))))))))))))))))))))))))))))))))))
  · exact Or.inr (Or.inr (Or.inr (Or.inr (Or.inr (Or.inr (Or.inr (Or.inr (Or.inr (Or.inr (Or.inr (Or.inr (Or.inr (Or.inr (Or.inr (Or.inr (Or.inr (Or.inr (Or.inr (Or.inr (Or.inr (Or.inr (Or.inr (Or.inr (Or.inr (Or.inr (Or.inr (Or.inr (Or.inr (Or.inr (Or.inr (Or.inr (Or.inr (Or.inr (Or.inr (Or.inr (Or.inr (Or.inr (Or.inr (Or.inr (Or.inr (Or.inr (Or.inr (Or.inr (Or.inr (Or.inr (Or.inr (Or.inr (Or.inr (Or.inr (Or.inr (Or.inr (Or.inr (Or.inr (Or.inr (Or.inr (Or.inr (Or.inr (Or.inr (Or.inr (Or.inr (Or.inl ⟨rfl, by decide, by decide, by decide, by decide⟩)))))))))))))))))))))))))))))))))))))))))))))))))))))))))))))
  · exact Or.inr (Or.inr (Or.inr (Or.inr (Or.inr (Or.inr (Or.inr (Or.inr (Or.inr (Or.inr (Or.inr (Or.inr (Or.inr (Or.inr (Or.inr (Or.inr (Or.inr (Or.inr (Or.inr (Or.inr (Or.inr (Or.inr (Or.inr (Or.inr (Or.inr (Or.inr (Or.inr (Or.inr (Or.inr (Or.inr (Or.inr (Or.inr (Or.inr (Or.inr (Or.inr (Or.inr (Or.inr (Or.inr (Or.inr (Or.inr (Or.inr (Or.inr (Or.inr (Or.inr (Or.inr (Or.inr (Or.inr (Or.inr (Or.inr (Or.inr (Or.inr (Or.inr (Or.inr (Or.inr (Or.inr (Or.inr (Or.inr (Or.inr (Or.inr (Or.inr (Or.inr (Or.inr (Or.inl ⟨rfl, by decide, by decide, by decide, by decide⟩))))))))))))))))))))))))))))))))))))))))))))))))))))))))))))))
  · exact Or.inr (Or.inr (Or.inr (Or.inr (Or.inr (Or.inr (Or.inr (Or.inr (Or.inr (Or.inr (Or.inr (Or.inr (Or.inr (Or.inr (Or.inr (Or.inr (Or.inr (Or.inr (Or.inr (Or.inr (Or.inr (Or.inr (Or.inr (Or.inr (Or.inr (Or.inr (Or.inr (Or.inr (Or.inr (Or.inr (Or.inr (Or.inr (Or.inr (Or.inr (Or.inr (Or.inr (Or.inr (Or.inr (Or.inr (Or.inr (Or.inr (Or.inr (Or.inr (Or.inr (Or.inr (Or.inr (Or.inr (Or.inr (Or.inr (Or.inr (Or.inr (Or.inr (Or.inr (Or.inr (Or.inr (Or.inr (Or.inr (Or.inr (Or.inr (Or.inr (Or.inr (Or.inr (Or.inr (⟨rfl, by decide, by decide, by decide, by decide⟩)))))))))))))))))))))))))))))))))))))))))))))))))))))))))))))))
theorem hl_43 {r q k : Int} (p0 : rf_XP xt 40 [] [3, r, k, 0]) (p1 : rf_XP xt 40 [] [3, q, k, 1]) (q0 : r ≤ q) (q1 : q ≤ r) : False := by
  have e : r = q := by omega
  subst e
  have a : (0 : Int) = rf_und r.toNat k.toNat := p0
  have b : (1 : Int) = rf_und r.toNat k.toNat := p1
  omega
theorem hl_44 {a b r q : Int} (p0 : rf_XP xt 8 [] [-2, a, r]) (p1 : rf_XP xt 8 [] [-2, b, q]) : (a + 1 ≤ b ∧ q + 1 ≤ r) ∨ (a ≤ b ∧ b ≤ a ∧ r ≤ q ∧ q ≤ r) ∨ (b + 1 ≤ a ∧ r + 1 ≤ q) := by
  have e1 : r = -2 - a := p0
  have e2 : q = -2 - b := p1
  omega
theorem hl_45 {a b : Int} : a + 1 ≤ b ∨ (a ≤ b ∧ b ≤ a) ∨ b + 1 ≤ a := by omega
theorem hl_46 {L i t n : Int} (p0 : rf_XP xt 8 [] [L, i, t]) (q0 : t + 1 ≤ n) : rf_XP xt 33 [] [i, n, L] := by
  have e : t = L - i := p0
  show L + 1 ≤ i + n
  omega
theorem hl_47 {L i t n : Int} (p0 : rf_XP xt 8 [] [L, i, t]) (q0 : n ≤ t) : rf_XP xt 9 [] [i, n, L] := by
  have e : t = L - i := p0
  show i + n ≤ L
  omega
theorem hl_48 {L n u i : Int} (p0 : rf_XP xt 8 [] [L, n, u]) (q0 : u + 1 ≤ i) : rf_XP xt 33 [] [i, n, L] := by
  have e : u = L - n := p0
  show L + 1 ≤ i + n
  omega
theorem hl_49 {L n u i : Int} (p0 : rf_XP xt 8 [] [L, n, u]) (q0 : i ≤ u) : rf_XP xt 9 [] [i, n, L] := by
  have e : u = L - n := p0
  show i + n ≤ L
  omega
theorem hl_50 {i n L z : Int} (p0 : rf_XP xt 9 [] [i, n, L]) (p1 : rf_XP xt 33 [] [i, n, z]) (q0 : L ≤ z) (q1 : z ≤ L) : False := by
  have e1 : i + n ≤ L := p0
  have e2 : z + 1 ≤ i + n := p1
  omega
theorem hl_51 {a b c d : Int} (q0 : a + 1 ≤ b) (q1 : b ≤ c) (q2 : c ≤ d) (q3 : d ≤ a) : False := by omega
theorem hl_52 {i n L z : Int} (p0 : rf_XP xt 9 [] [i, n, L]) (p1 : rf_XP xt 33 [] [n, i, z]) (q0 : L ≤ z) (q1 : z ≤ L) : False := by
  have e1 : i + n ≤ L := p0
  have e2 : z + 1 ≤ n + i := p1
  omega
theorem hl_53   : rf_XP xt 11 [] [60, 0, 0] := by
  show (0 : Int) = 60 * 0
  rfl
theorem hl_54   : rf_XP xt 11 [] [60, 1, 60] := by
  show (60 : Int) = 60 * 1
  rfl
theorem hl_55   : rf_XP xt 11 [] [60, 2, 120] := by
  show (120 : Int) = 60 * 2
  rfl
theorem hl_56   : rf_XP xt 11 [] [60, 3, 180] := by
  show (180 : Int) = 60 * 3
  rfl
theorem hl_57   : rf_XP xt 11 [] [60, 4, 240] := by
  show (240 : Int) = 60 * 4
  rfl
theorem hl_58   : rf_XP xt 11 [] [60, 5, 300] := by
  show (300 : Int) = 60 * 5
  rfl
theorem hl_59 {g a : Int}   : rf_XP xt 40 [] [5, g, a, a] := by
  show ∀ j : Nat, a ≤ (j : Int) → (j : Int) < a → rf_dc j g = 0
  intro j h1 h2
  omega
theorem hl_60 {g a b G : Int} (p0 : rf_XP xt 40 [] [5, g, a, b]) (p1 : rf_XP xt 31 [] [G, g, b, 0])  : rf_XP xt 40 [] [5, G, a, b + 1] := by
  have a0 : ∀ j : Nat, a ≤ (j : Int) → (j : Int) < b → rf_dc j g = 0 := p0
  obtain ⟨b0, b1⟩ : 0 ≤ b ∧ G = rf_up b.toNat 0 g := p1
  show ∀ j : Nat, a ≤ (j : Int) → (j : Int) < b + 1 → rf_dc j G = 0
  intro j h1 h2
  rw [b1, rf_dc_up (by omega) (by omega)]
  by_cases hj : j = b.toNat
  · rw [if_pos hj]
  · rw [if_neg hj]
    exact a0 j h1 (by omega)
theorem hl_61 {g a : Int}   : rf_XP xt 40 [] [7, g, g, a, a] := by
  show ∀ j : Nat, ¬ (a ≤ (j : Int) ∧ (j : Int) < a) → rf_dc j g = rf_dc j g
  intro j _
  rfl
theorem hl_62 {f g a b G v : Int} (p0 : rf_XP xt 40 [] [7, f, g, a, b]) (p1 : rf_XP xt 31 [] [G, f, b, v]) (q0 : -9223372036854775808 ≤ v) (q1 : v ≤ 9223372036854775807) (q2 : a ≤ b) : rf_XP xt 40 [] [7, G, g, a, b + 1] := by
  have a0 : ∀ j : Nat, ¬ (a ≤ (j : Int) ∧ (j : Int) < b) → rf_dc j f = rf_dc j g := p0
  obtain ⟨b0, b1⟩ : 0 ≤ b ∧ G = rf_up b.toNat v f := p1
  show ∀ j : Nat, ¬ (a ≤ (j : Int) ∧ (j : Int) < b + 1) → rf_dc j G = rf_dc j g
  intro j h1
  rw [b1, rf_dc_up q0 q1, if_neg (by omega)]
  exact a0 j (by omega)
theorem hl_63 {g h d s : Int}   : rf_XP xt 40 [] [6, g, g, h, d, s, 0] := by
  show ∀ j : Nat, j ≤ 374 → rf_dc j g = if d ≤ (j : Int) ∧ (j : Int) < d + 0 then rf_dc (s + ((j : Int) - d)).toNat h else rf_dc j g
  intro j _
  rw [if_neg (by omega)]
theorem hl_64 {f g h e k p r G y : Int} (p0 : rf_XP xt 40 [] [6, f, g, h, 0, e, k]) (p1 : rf_XP xt 36 [] [p, r, h]) (p2 : rf_XP xt 31 [] [G, f, k, r]) (p3 : rf_XP xt 10 [] [y, k, p]) (q0 : 0 ≤ e) (q1 : 0 ≤ k) (q2 : y ≤ e) (q3 : e ≤ y) : rf_XP xt 40 [] [6, G, g, h, 0, e, k + 1] := by
  have a0 : ∀ j : Nat, j ≤ 374 → rf_dc j f = if (0 : Int) ≤ (j : Int) ∧ (j : Int) < (0 : Int) + k then rf_dc (e + ((j : Int) - (0 : Int))).toNat h else rf_dc j g := p0
  have b2 : r = rf_dc p.toNat h := p1.2
  obtain ⟨c0, c1⟩ : 0 ≤ k ∧ G = rf_up k.toNat r f := p2
  have d0 : p = y + k := p3
  show ∀ j : Nat, j ≤ 374 → rf_dc j G = if (0 : Int) ≤ (j : Int) ∧ (j : Int) < (0 : Int) + (k + 1) then rf_dc (e + ((j : Int) - (0 : Int))).toNat h else rf_dc j g
  intro j hj
  rw [c1, b2, rf_dc_up (rf_dc_rng _ _).1 (rf_dc_rng _ _).2]
  by_cases h1 : j = k.toNat
  · rw [if_pos h1, if_pos (by omega)]
    congr 1
    omega
  · rw [if_neg h1, a0 j hj]
    by_cases h2 : (j : Int) < k
    · rw [if_pos (by omega), if_pos (by omega)]
    · rw [if_neg (by omega), if_neg (by omega)]
theorem hl_65 {f g h d k r q G y : Int} (p0 : rf_XP xt 40 [] [6, f, g, h, d, 0, k]) (p1 : rf_XP xt 36 [] [k, r, h]) (p2 : rf_XP xt 31 [] [G, f, q, r]) (p3 : rf_XP xt 10 [] [y, k, q]) (q0 : 0 ≤ d) (q1 : 0 ≤ k) (q2 : y ≤ d) (q3 : d ≤ y) : rf_XP xt 40 [] [6, G, g, h, d, 0, k + 1] := by
  have a0 : ∀ j : Nat, j ≤ 374 → rf_dc j f = if d ≤ (j : Int) ∧ (j : Int) < d + k then rf_dc ((0 : Int) + ((j : Int) - d)).toNat h else rf_dc j g := p0
  have b2 : r = rf_dc k.toNat h := p1.2
  obtain ⟨c0, c1⟩ : 0 ≤ q ∧ G = rf_up q.toNat r f := p2
  have d0 : q = y + k := p3
  show ∀ j : Nat, j ≤ 374 → rf_dc j G = if d ≤ (j : Int) ∧ (j : Int) < d + (k + 1) then rf_dc ((0 : Int) + ((j : Int) - d)).toNat h else rf_dc j g
  intro j hj
  rw [c1, b2, rf_dc_up (rf_dc_rng _ _).1 (rf_dc_rng _ _).2]
  by_cases h1 : j = q.toNat
  · rw [if_pos h1, if_pos (by omega)]
    congr 1
    omega
  · rw [if_neg h1, a0 j hj]
    by_cases h2 : d ≤ (j : Int) ∧ (j : Int) < d + k
    · rw [if_pos h2, if_pos (by omega)]
    · rw [if_neg h2, if_neg (by omega)]
theorem hl_66 {s : Int}  (q0 : 0 ≤ s) (q1 : s ≤ 5) : ∃ y1 : Int, (0 ≤ y1 ∧ y1 ≤ 300) ∧ rf_XP xt 11 [] [60, s, y1] := by
  exact ⟨60 * s, ⟨by omega, by omega⟩, rfl⟩
theorem hl_67 {x i : Int}  (q0 : 0 ≤ x) (q1 : x ≤ 300) (q2 : 0 ≤ i) (q3 : i ≤ 60) : ∃ y1 : Int, (0 ≤ y1 ∧ y1 ≤ 360) ∧ rf_XP xt 10 [] [x, i, y1] := by
  exact ⟨x + i, ⟨by omega, by omega⟩, rfl⟩
theorem hl_68 {s x i e : Int} (p0 : rf_XP xt 11 [] [60, s, x]) (p1 : rf_XP xt 10 [] [x, i, e]) (q0 : s ≤ 0) (q1 : 0 ≤ s) : e ≤ i ∧ i ≤ e := by
  have d0 : x = 60 * s := p0
  have e0 : e = x + i := p1
  omega
theorem hl_69 {s x i e : Int} (p0 : rf_XP xt 11 [] [60, s, x]) (p1 : rf_XP xt 10 [] [x, i, e]) (q0 : s ≤ 1) (q1 : 1 ≤ s) : e ≤ i + 60 ∧ i + 60 ≤ e := by
  have d0 : x = 60 * s := p0
  have e0 : e = x + i := p1
  omega
theorem hl_70 {s x i e : Int} (p0 : rf_XP xt 11 [] [60, s, x]) (p1 : rf_XP xt 10 [] [x, i, e]) (q0 : s ≤ 2) (q1 : 2 ≤ s) : e ≤ i + 120 ∧ i + 120 ≤ e := by
  have d0 : x = 60 * s := p0
  have e0 : e = x + i := p1
  omega
theorem hl_71 {s x i e : Int} (p0 : rf_XP xt 11 [] [60, s, x]) (p1 : rf_XP xt 10 [] [x, i, e]) (q0 : s ≤ 3) (q1 : 3 ≤ s) : e ≤ i + 180 ∧ i + 180 ≤ e := by
  have d0 : x = 60 * s := p0
  have e0 : e = x + i := p1
  omega
theorem hl_72 {s x i e : Int} (p0 : rf_XP xt 11 [] [60, s, x]) (p1 : rf_XP xt 10 [] [x, i, e]) (q0 : s ≤ 4) (q1 : 4 ≤ s) : e ≤ i + 240 ∧ i + 240 ≤ e := by
  have d0 : x = 60 * s := p0
  have e0 : e = x + i := p1
  omega
theorem hl_73 {s x i e : Int} (p0 : rf_XP xt 11 [] [60, s, x]) (p1 : rf_XP xt 10 [] [x, i, e]) (q0 : s ≤ 5) (q1 : 5 ≤ s) : e ≤ i + 300 ∧ i + 300 ≤ e := by
  have d0 : x = 60 * s := p0
  have e0 : e = x + i := p1
  omega
theorem hl_74 {o9 v a w : Int} (p0 : rf_XP xt 35 [] [5, v, 0, a]) (p1 : rf_XP xt 35 [] [6, a, 0, w]) (q0 : o9 ≤ 0) (q1 : 0 ≤ o9) : rf_XP xt 40 [] [8, o9, v, w] := by
  have a0 : a = rf_wop 5 v 0 := p0
  have b0 : w = rf_wop 6 a 0 := p1
  show w = rf_nr o9 v
  unfold rf_nr
  rw [if_pos (by omega), b0, a0]
theorem hl_75 {o9 v a w : Int} (p0 : rf_XP xt 35 [] [5, v, 0, a]) (p1 : rf_XP xt 35 [] [7, a, 0, w]) (q0 : o9 ≤ 1) (q1 : 1 ≤ o9) : rf_XP xt 40 [] [8, o9, v, w] := by
  have a0 : a = rf_wop 5 v 0 := p0
  have b0 : w = rf_wop 7 a 0 := p1
  show w = rf_nr o9 v
  unfold rf_nr
  rw [if_neg (by omega), if_pos (by omega), b0, a0]
theorem hl_76 {o9 v w : Int} (p0 : rf_XP xt 35 [] [5, v, 0, w]) (q0 : o9 ≤ 2) (q1 : 2 ≤ o9) : rf_XP xt 40 [] [8, o9, v, w] := by
  have a0 : w = rf_wop 5 v 0 := p0
  show w = rf_nr o9 v
  unfold rf_nr
  rw [if_neg (by omega), if_neg (by omega), if_pos (by omega), a0]
theorem hl_77 {o9 v : Int}  (q0 : o9 ≤ 3) (q1 : 3 ≤ o9) : rf_XP xt 40 [] [8, o9, v, v] := by
  show v = rf_nr o9 v
  unfold rf_nr
  rw [if_neg (by omega), if_neg (by omega), if_neg (by omega), if_pos (by omega)]
theorem hl_78 {o9 v : Int}  (q0 : 4 ≤ o9) (q1 : v ≤ 0) (q2 : 0 ≤ v) : rf_XP xt 40 [] [8, o9, v, 0] := by
  show (0 : Int) = rf_nr o9 v
  unfold rf_nr
  rw [if_neg (by omega), if_neg (by omega), if_neg (by omega), if_neg (by omega), if_pos (by omega)]
theorem hl_79 {o9 v : Int}  (q0 : 4 ≤ o9) (q1 : 1 ≤ v) : rf_XP xt 40 [] [8, o9, v, 1] := by
  show (1 : Int) = rf_nr o9 v
  unfold rf_nr
  rw [if_neg (by omega), if_neg (by omega), if_neg (by omega), if_neg (by omega), if_neg (by omega)]
theorem hl_80 {o9 v : Int}  (q0 : 4 ≤ o9) (q1 : v ≤ -1) : rf_XP xt 40 [] [8, o9, v, 1] := by
  show (1 : Int) = rf_nr o9 v
  unfold rf_nr
  rw [if_neg (by omega), if_neg (by omega), if_neg (by omega), if_neg (by omega), if_neg (by omega)]
theorem hl_81 {a v w b u x : Int} (p0 : rf_XP xt 40 [] [8, a, v, w]) (p1 : rf_XP xt 40 [] [8, b, u, x]) (q0 : a ≤ b) (q1 : b ≤ a) (q2 : v ≤ u) (q3 : u ≤ v) : w ≤ x ∧ x ≤ w := by
  have a0 : w = rf_nr a v := p0
  have b0 : x = rf_nr b u := p1
  rw [show a = b by omega, show v = u by omega] at a0
  omega
theorem hl_82 {a r b : Int} (p0 : rf_XP xt 8 [] [-2, a, r]) (p1 : rf_XP xt 8 [] [-2, r, b])  : a ≤ b ∧ b ≤ a := by
  have e1 : r = -2 - a := p0
  have e2 : b = -2 - r := p1
  omega
theorem hl_83 {r g s i q t j : Int} (p0 : rf_XP xt 40 [] [9, r, g, s, i]) (p1 : rf_XP xt 40 [] [9, q, g, t, j]) (q0 : s ≤ t) (q1 : t ≤ s) (q2 : i ≤ j) (q3 : j ≤ i) : r ≤ q ∧ q ≤ r := by
  have a0 : r = rf_dc (60 * s + i).toNat g := p0
  have b0 : q = rf_dc (60 * t + j).toNat g := p1
  rw [show s = t by omega, show i = j by omega] at a0
  omega
theorem hl_84 {h n g G s i r : Int} (p0 : rf_XP xt 40 [] [4, h, n, g, G, s]) (p1 : rf_XP xt 36 [] [i, r, g]) (q0 : h ≤ 2) (q1 : 2 ≤ h) (q2 : 0 ≤ i) (q3 : i + 1 ≤ n) (q4 : 0 ≤ s) : rf_XP xt 40 [] [9, r, G, s, i] := by
  have a0 : h = 2 → ∀ j : Nat, (j : Int) < n → rf_dc j g = rf_dc (60 * s.toNat + j) G := p0
  have b0 : r = rf_dc i.toNat g := p1.2
  show r = rf_dc (60 * s + i).toNat G
  rw [b0, a0 (by omega) i.toNat (by omega)]
  congr 1
  omega
theorem hl_85 {e q G s x i : Int} (p0 : rf_XP xt 36 [] [e, q, G]) (p1 : rf_XP xt 11 [] [60, s, x]) (p2 : rf_XP xt 10 [] [x, i, e])  : rf_XP xt 40 [] [9, q, G, s, i] := by
  have a0 : q = rf_dc e.toNat G := p0.2
  have b0 : x = 60 * s := p1
  have c0 : e = x + i := p2
  show q = rf_dc (60 * s + i).toNat G
  rw [a0, c0, b0]
theorem hl_86 {h n g G s A i v B e w t x : Int} (p0 : rf_XP xt 40 [] [4, h, n, g, G, s]) (p1 : rf_XP xt 31 [] [A, g, i, v]) (p2 : rf_XP xt 31 [] [B, G, e, w]) (p3 : rf_XP xt 11 [] [60, t, x]) (p4 : rf_XP xt 10 [] [x, i, e]) (q0 : s ≤ t) (q1 : t ≤ s) (q2 : v ≤ w) (q3 : w ≤ v) (q4 : 0 ≤ s) (q5 : -9223372036854775808 ≤ v) (q6 : v ≤ 9223372036854775807) (q7 : -9223372036854775808 ≤ w) (q8 : w ≤ 9223372036854775807) : rf_XP xt 40 [] [4, h, n, A, B, s] := by
  have a0 : h = 2 → ∀ j : Nat, (j : Int) < n → rf_dc j g = rf_dc (60 * s.toNat + j) G := p0
  obtain ⟨b0, b1⟩ : 0 ≤ i ∧ A = rf_up i.toNat v g := p1
  obtain ⟨c0, c1⟩ : 0 ≤ e ∧ B = rf_up e.toNat w G := p2
  have d0 : x = 60 * t := p3
  have e0 : e = x + i := p4
  show h = 2 → ∀ j : Nat, (j : Int) < n → rf_dc j A = rf_dc (60 * s.toNat + j) B
  intro hh j hj
  rw [b1, c1, rf_dc_up q5 q6, rf_dc_up q7 q8]
  by_cases h1 : j = i.toNat
  · rw [if_pos h1, if_pos (by omega)]
    omega
  · rw [if_neg h1, if_neg (by omega)]
    exact a0 hh j hj
theorem hl_87 {h n g G s B e w t x i : Int} (p0 : rf_XP xt 40 [] [4, h, n, g, G, s]) (p1 : rf_XP xt 31 [] [B, G, e, w]) (p2 : rf_XP xt 11 [] [60, t, x]) (p3 : rf_XP xt 10 [] [x, i, e]) (q0 : s + 1 ≤ t) (q1 : n ≤ 60) (q2 : 0 ≤ i) (q3 : i ≤ 59) (q4 : 0 ≤ s) (q5 : 0 ≤ t) (q6 : -9223372036854775808 ≤ w) (q7 : w ≤ 9223372036854775807) : rf_XP xt 40 [] [4, h, n, g, B, s] := by
  have a0 : h = 2 → ∀ j : Nat, (j : Int) < n → rf_dc j g = rf_dc (60 * s.toNat + j) G := p0
  obtain ⟨c0, c1⟩ : 0 ≤ e ∧ B = rf_up e.toNat w G := p1
  have d0 : x = 60 * t := p2
  have e0 : e = x + i := p3
  show h = 2 → ∀ j : Nat, (j : Int) < n → rf_dc j g = rf_dc (60 * s.toNat + j) B
  intro hh j hj
  rw [c1, rf_dc_up q6 q7, if_neg (by omega)]
  exact a0 hh j hj
theorem hl_88 {h n g G s B e w t x i : Int} (p0 : rf_XP xt 40 [] [4, h, n, g, G, s]) (p1 : rf_XP xt 31 [] [B, G, e, w]) (p2 : rf_XP xt 11 [] [60, t, x]) (p3 : rf_XP xt 10 [] [x, i, e]) (q0 : t + 1 ≤ s) (q1 : n ≤ 60) (q2 : 0 ≤ i) (q3 : i ≤ 59) (q4 : 0 ≤ s) (q5 : 0 ≤ t) (q6 : -9223372036854775808 ≤ w) (q7 : w ≤ 9223372036854775807) : rf_XP xt 40 [] [4, h, n, g, B, s] := by
  have a0 : h = 2 → ∀ j : Nat, (j : Int) < n → rf_dc j g = rf_dc (60 * s.toNat + j) G := p0
  obtain ⟨c0, c1⟩ : 0 ≤ e ∧ B = rf_up e.toNat w G := p1
  have d0 : x = 60 * t := p2
  have e0 : e = x + i := p3
  show h = 2 → ∀ j : Nat, (j : Int) < n → rf_dc j g = rf_dc (60 * s.toNat + j) B
  intro hh j hj
  rw [c1, rf_dc_up q6 q7, if_neg (by omega)]
  exact a0 hh j hj
theorem hl_89 {h n g G s : Int}  (q0 : h ≤ 1) : rf_XP xt 40 [] [4, h, n, g, G, s] := by
  show h = 2 → ∀ j : Nat, (j : Int) < n → rf_dc j g = rf_dc (60 * s.toNat + j) G
  intro hh
  exact absurd hh (by omega)
theorem hl_90 {h n g G s a i b c x : Int} (p0 : rf_XP xt 40 [] [5, g, a, i]) (p1 : rf_XP xt 40 [] [5, G, b, c]) (p2 : rf_XP xt 11 [] [60, s, x]) (q0 : a ≤ 0) (q1 : n ≤ i) (q2 : b ≤ x) (q3 : x + 60 ≤ c) (q4 : n ≤ 60) (q5 : 0 ≤ s) : rf_XP xt 40 [] [4, h, n, g, G, s] := by
  have a0 : ∀ j : Nat, a ≤ (j : Int) → (j : Int) < i → rf_dc j g = 0 := p0
  have b0 : ∀ j : Nat, b ≤ (j : Int) → (j : Int) < c → rf_dc j G = 0 := p1
  have d0 : x = 60 * s := p2
  show h = 2 → ∀ j : Nat, (j : Int) < n → rf_dc j g = rf_dc (60 * s.toNat + j) G
  intro _ j hj
  rw [a0 j (by omega) (by omega), b0 (60 * s.toNat + j) (by omega) (by omega)]
theorem hl_91 {h n g G s X a b x : Int} (p0 : rf_XP xt 40 [] [4, h, n, g, G, s]) (p1 : rf_XP xt 40 [] [7, X, G, a, b]) (p2 : rf_XP xt 11 [] [60, s, x]) (q0 : x + 60 ≤ a) (q1 : n ≤ 60) (q2 : 0 ≤ s) : rf_XP xt 40 [] [4, h, n, g, X, s] := by
  have a0 : h = 2 → ∀ j : Nat, (j : Int) < n → rf_dc j g = rf_dc (60 * s.toNat + j) G := p0
  have b0 : ∀ j : Nat, ¬ (a ≤ (j : Int) ∧ (j : Int) < b) → rf_dc j X = rf_dc j G := p1
  have d0 : x = 60 * s := p2
  show h = 2 → ∀ j : Nat, (j : Int) < n → rf_dc j g = rf_dc (60 * s.toNat + j) X
  intro hh j hj
  rw [b0 (60 * s.toNat + j) (by omega)]
  exact a0 hh j hj
theorem hl_92 {h n g G s X a b x : Int} (p0 : rf_XP xt 40 [] [4, h, n, g, G, s]) (p1 : rf_XP xt 40 [] [7, X, G, a, b]) (p2 : rf_XP xt 11 [] [60, s, x]) (q0 : b ≤ x) (q1 : n ≤ 60) (q2 : 0 ≤ s) : rf_XP xt 40 [] [4, h, n, g, X, s] := by
  have a0 : h = 2 → ∀ j : Nat, (j : Int) < n → rf_dc j g = rf_dc (60 * s.toNat + j) G := p0
  have b0 : ∀ j : Nat, ¬ (a ≤ (j : Int) ∧ (j : Int) < b) → rf_dc j X = rf_dc j G := p1
  have d0 : x = 60 * s := p2
  show h = 2 → ∀ j : Nat, (j : Int) < n → rf_dc j g = rf_dc (60 * s.toNat + j) X
  intro hh j hj
  rw [b0 (60 * s.toNat + j) (by omega)]
  exact a0 hh j hj
theorem hl_93 {A g H d i n z l G s : Int} (p0 : rf_XP xt 40 [] [6, A, g, H, d, i, n]) (p1 : rf_XP xt 40 [] [4, z, l, H, G, s]) (p2 : rf_XP xt 9 [] [i, n, l]) (q0 : z ≤ 2) (q1 : 2 ≤ z) (q2 : 0 ≤ i) (q3 : 0 ≤ s) : rf_XP xt 40 [] [10, A, g, G, d, s, i, n] := by
  have a0 : ∀ j : Nat, j ≤ 374 → rf_dc j A = if d ≤ (j : Int) ∧ (j : Int) < d + n then rf_dc (i + ((j : Int) - d)).toNat H else rf_dc j g := p0
  have b0 : z = 2 → ∀ j : Nat, (j : Int) < l → rf_dc j H = rf_dc (60 * s.toNat + j) G := p1
  have c0 : i + n ≤ l := p2
  show ∀ j : Nat, j ≤ 374 → rf_dc j A = if d ≤ (j : Int) ∧ (j : Int) < d + n then rf_dc (60 * s + i + ((j : Int) - d)).toNat G else rf_dc j g
  intro j hj
  rw [a0 j hj]
  by_cases h1 : d ≤ (j : Int) ∧ (j : Int) < d + n
  · rw [if_pos h1, if_pos h1, b0 (by omega) (i + ((j : Int) - d)).toNat (by omega)]
    congr 1
    omega
  · rw [if_neg h1, if_neg h1]
theorem hl_94 {A g G d s i n S T e k X f m x y t h l u : Int} (p0 : rf_XP xt 40 [] [10, A, g, G, d, s, i, n]) (p1 : rf_XP xt 40 [] [6, S, T, G, 0, e, k]) (p2 : rf_XP xt 40 [] [6, X, G, S, f, 0, m]) (p3 : rf_XP xt 11 [] [60, s, x]) (p4 : rf_XP xt 10 [] [x, i, e]) (p5 : rf_XP xt 11 [] [60, t, y]) (p6 : rf_XP xt 10 [] [y, d, f]) (p7 : rf_XP xt 40 [] [4, h, l, g, G, u]) (q0 : n ≤ k) (q1 : k ≤ n) (q2 : n ≤ m) (q3 : m ≤ n) (q4 : t ≤ u) (q5 : u ≤ t) (q6 : 0 ≤ d) (q7 : 0 ≤ n) (q8 : 0 ≤ u) (q9 : u ≤ 5) (q10 : l ≤ 60) (q11 : 0 ≤ s) (q12 : 0 ≤ i) : rf_XP xt 40 [] [4, h, l, A, X, u] := by
  have a0 : ∀ j : Nat, j ≤ 374 → rf_dc j A = if d ≤ (j : Int) ∧ (j : Int) < d + n then rf_dc (60 * s + i + ((j : Int) - d)).toNat G else rf_dc j g := p0
  have b0 : ∀ j : Nat, j ≤ 374 → rf_dc j S = if (0 : Int) ≤ (j : Int) ∧ (j : Int) < (0 : Int) + k then rf_dc (e + ((j : Int) - (0 : Int))).toNat G else rf_dc j T := p1
  have c0 : ∀ j : Nat, j ≤ 374 → rf_dc j X = if f ≤ (j : Int) ∧ (j : Int) < f + m then rf_dc ((0 : Int) + ((j : Int) - f)).toNat S else rf_dc j G := p2
  have d0 : x = 60 * s := p3
  have e0 : e = x + i := p4
  have f0 : y = 60 * t := p5
  have g0 : f = y + d := p6
  have h0 : h = 2 → ∀ j : Nat, (j : Int) < l → rf_dc j g = rf_dc (60 * u.toNat + j) G := p7
  show h = 2 → ∀ j : Nat, (j : Int) < l → rf_dc j A = rf_dc (60 * u.toNat + j) X
  intro hh j hj
  rw [a0 j (by omega), c0 (60 * u.toNat + j) (by omega)]
  by_cases h1 : d ≤ (j : Int) ∧ (j : Int) < d + n
  · rw [if_pos h1, if_pos (by omega), b0 ((0 : Int) + (((60 * u.toNat + j : Nat) : Int) - f)).toNat (by omega), if_pos (by omega)]
    congr 1
    omega
  · rw [if_neg h1, if_neg (by omega)]
    exact h0 hh j hj
theorem hl_95 {h l g G u X S f m t y d n L : Int} (p0 : rf_XP xt 40 [] [4, h, l, g, G, u]) (p1 : rf_XP xt 40 [] [6, X, G, S, f, 0, m]) (p2 : rf_XP xt 11 [] [60, t, y]) (p3 : rf_XP xt 10 [] [y, d, f]) (p4 : rf_XP xt 9 [] [d, n, L]) (q0 : u + 1 ≤ t) (q1 : m ≤ n) (q2 : L ≤ 60) (q3 : l ≤ 60) (q4 : 0 ≤ d) (q5 : 0 ≤ u) (q6 : u ≤ 5) (q7 : 0 ≤ t) : rf_XP xt 40 [] [4, h, l, g, X, u] := by
  have a0 : h = 2 → ∀ j : Nat, (j : Int) < l → rf_dc j g = rf_dc (60 * u.toNat + j) G := p0
  have c0 : ∀ j : Nat, j ≤ 374 → rf_dc j X = if f ≤ (j : Int) ∧ (j : Int) < f + m then rf_dc ((0 : Int) + ((j : Int) - f)).toNat S else rf_dc j G := p1
  have d0 : y = 60 * t := p2
  have e0 : f = y + d := p3
  have f0 : d + n ≤ L := p4
  show h = 2 → ∀ j : Nat, (j : Int) < l → rf_dc j g = rf_dc (60 * u.toNat + j) X
  intro hh j hj
  rw [c0 (60 * u.toNat + j) (by omega), if_neg (by omega)]
  exact a0 hh j hj
theorem hl_96 {h l g G u X S f m t y d n L : Int} (p0 : rf_XP xt 40 [] [4, h, l, g, G, u]) (p1 : rf_XP xt 40 [] [6, X, G, S, f, 0, m]) (p2 : rf_XP xt 11 [] [60, t, y]) (p3 : rf_XP xt 10 [] [y, d, f]) (p4 : rf_XP xt 9 [] [d, n, L]) (q0 : t + 1 ≤ u) (q1 : m ≤ n) (q2 : L ≤ 60) (q3 : l ≤ 60) (q4 : 0 ≤ d) (q5 : 0 ≤ u) (q6 : u ≤ 5) (q7 : 0 ≤ t) : rf_XP xt 40 [] [4, h, l, g, X, u] := by
  have a0 : h = 2 → ∀ j : Nat, (j : Int) < l → rf_dc j g = rf_dc (60 * u.toNat + j) G := p0
  have c0 : ∀ j : Nat, j ≤ 374 → rf_dc j X = if f ≤ (j : Int) ∧ (j : Int) < f + m then rf_dc ((0 : Int) + ((j : Int) - f)).toNat S else rf_dc j G := p1
  have d0 : y = 60 * t := p2
  have e0 : f = y + d := p3
  have f0 : d + n ≤ L := p4
  show h = 2 → ∀ j : Nat, (j : Int) < l → rf_dc j g = rf_dc (60 * u.toNat + j) X
  intro hh j hj
  rw [c0 (60 * u.toNat + j) (by omega), if_neg (by omega)]
  exact a0 hh j hj
theorem hl_97 {a r : Int} (p0 : rf_XP xt 8 [] [-2, a, r]) (q0 : 0 ≤ a) (q1 : a ≤ 4) : (a ≤ 0 ∧ 0 ≤ a ∧ r ≤ -2 ∧ -2 ≤ r) ∨ (a ≤ 1 ∧ 1 ≤ a ∧ r ≤ -3 ∧ -3 ≤ r) ∨ (a ≤ 2 ∧ 2 ≤ a ∧ r ≤ -4 ∧ -4 ≤ r) ∨ (a ≤ 3 ∧ 3 ≤ a ∧ r ≤ -5 ∧ -5 ≤ r) ∨ (a ≤ 4 ∧ 4 ≤ a ∧ r ≤ -6 ∧ -6 ≤ r) := by
  have e : r = -2 - a := p0
  omega
theorem hl_98 {a b : Int}  (q0 : a ≤ b) : a ≤ b := by
  exact q0
theorem hl_99 {a b r c d q : Int} (p0 : rf_XP xt 10 [] [a, b, r]) (p1 : rf_XP xt 10 [] [c, d, q]) (q0 : a ≤ c) (q1 : c ≤ a) (q2 : b ≤ d) (q3 : d ≤ b) : r ≤ q ∧ q ≤ r := by
  have e1 : r = a + b := p0
  have e2 : q = c + d := p1
  omega
theorem hl_100 {i : Int}   : rf_XP xt 40 [] [13, i, i, 0] := by
  show i = i + 3 * 0
  omega
theorem hl_101 {a i c : Int} (p0 : rf_XP xt 40 [] [13, a, i, c])  : rf_XP xt 40 [] [13, a + 3, i, c + 1] := by
  have e : a = i + 3 * c := p0
  show a + 3 = i + 3 * (c + 1)
  omega
theorem hl_102 {a i k m : Int} (p0 : rf_XP xt 11 [] [3, k, m]) (p1 : rf_XP xt 10 [] [i, m, a])  : rf_XP xt 40 [] [13, a, i, k] := by
  have e1 : m = 3 * k := p0
  have e2 : a = i + m := p1
  show a = i + 3 * k
  omega
theorem hl_103 {i m a : Int} (p0 : rf_XP xt 35 [] [16, i, m, a]) (q0 : -2147483648 ≤ i) (q1 : i ≤ 2147483647) (q2 : -2147483648 ≤ m) (q3 : m ≤ 2147483647) : rf_XP xt 10 [] [i, m, a] := by
  have e : a = (Int64.ofInt i + Int64.ofInt m).toInt := p0
  show a = i + m
  rw [e, Int64.toInt_add, Int64.toInt_ofInt_of_le (by omega) (by omega), Int64.toInt_ofInt_of_le (by omega) (by omega)]
  exact rf_bm64 (by omega) (by omega)
theorem hl_104 {a : Int}   : rf_XP xt 10 [] [a, 0, a] := by
  show a = a + 0
  omega
theorem hl_105 {a b r : Int} (p0 : rf_XP xt 10 [] [a, b, r])  : rf_XP xt 10 [] [a, b + 1, r + 1] := by
  have e : r = a + b := p0
  show r + 1 = a + (b + 1)
  omega
theorem hl_106 {G s i n l g : Int}  (q0 : 0 ≤ n) : rf_XP xt 40 [] [11, 0, G, s, i, n, l, g] := by
  show 0 ≤ (0 : Int) ∧ 0 ≤ n ∧ ∀ k : Int, 0 ≤ k → k < 0 → rf_gok G s i l g k
  exact ⟨by omega, by omega, fun k h1 h2 => absurd h1 (by omega)⟩
theorem hl_107 {c G s i n l g a r1 t1 r2 t2 r3 t3 u : Int} (p0 : rf_XP xt 40 [] [11, c, G, s, i, n, l, g]) (p1 : rf_XP xt 40 [] [13, a, i, c]) (p2 : rf_XP xt 40 [] [9, r1, G, s, a]) (p3 : rf_XP xt 35 [] [5, r1, 0, t1]) (p4 : rf_XP xt 40 [] [9, r2, G, s, a + 1]) (p5 : rf_XP xt 35 [] [5, r2, 0, t2]) (p6 : rf_XP xt 40 [] [9, r3, G, s, a + 2]) (p7 : rf_XP xt 35 [] [5, r3, 0, t3]) (p8 : rf_XP xt 10 [] [g, c, u]) (q0 : 0 ≤ a) (q1 : a + 3 ≤ l) (q2 : c + 1 ≤ n) (q3 : u ≤ 6) (q4 : 0 ≤ t1) (q5 : t1 ≤ 9) (q6 : 0 ≤ t2) (q7 : t2 ≤ 50) (q8 : 0 ≤ t3) (q9 : t3 ≤ 3) : rf_XP xt 40 [] [11, c + 1, G, s, i, n, l, g] := by
  obtain ⟨a0, a1, a2⟩ : 0 ≤ c ∧ c ≤ n ∧ ∀ k : Int, 0 ≤ k → k < c → rf_gok G s i l g k := p0
  have b0 : a = i + 3 * c := p1
  have c1 : r1 = rf_dc (60 * s + a).toNat G := p2
  have d1 : t1 = rf_wop 5 r1 0 := p3
  have c2 : r2 = rf_dc (60 * s + (a + 1)).toNat G := p4
  have d2 : t2 = rf_wop 5 r2 0 := p5
  have c3 : r3 = rf_dc (60 * s + (a + 2)).toNat G := p6
  have d3 : t3 = rf_wop 5 r3 0 := p7
  have e0 : u = g + c := p8
  show 0 ≤ (c + 1) ∧ (c + 1) ≤ n ∧ ∀ k : Int, 0 ≤ k → k < c + 1 → rf_gok G s i l g k
  refine ⟨by omega, by omega, fun k h1 h2 => ?_⟩
  by_cases hk : k = c
  · rw [hk]
    unfold rf_gok
    rw [show 60 * s + i + 3 * c = 60 * s + a by omega, show 60 * s + a + 1 = 60 * s + (a + 1) by omega, show 60 * s + a + 2 = 60 * s + (a + 2) by omega, ← c1, ← c2, ← c3, ← d1, ← d2, ← d3]
    exact ⟨by omega, by omega, by omega, ⟨by omega, by omega⟩, ⟨by omega, by omega⟩, ⟨by omega, by omega⟩⟩
  · exact a2 k h1 (by omega)
theorem hl_108 {c G s i n l g : Int}  (q0 : c ≤ n) (q1 : n ≤ c) : rf_XP xt 40 [] [12, c, G, s, i, n, l, g] := by
  show c = n ∨ ¬ rf_gok G s i l g c
  exact Or.inl (by omega)
theorem hl_109 {c G s i n l g u : Int} (p0 : rf_XP xt 10 [] [g, c, u]) (q0 : 7 ≤ u) : rf_XP xt 40 [] [12, c, G, s, i, n, l, g] := by
  have e : u = g + c := p0
  show c = n ∨ ¬ rf_gok G s i l g c
  refine Or.inr (fun h9 => ?_)
  have := h9.2.2.1
  omega
theorem hl_110 {c G s i n l g a : Int} (p0 : rf_XP xt 40 [] [13, a, i, c]) (q0 : a ≤ -1) : rf_XP xt 40 [] [12, c, G, s, i, n, l, g] := by
  have e : a = i + 3 * c := p0
  show c = n ∨ ¬ rf_gok G s i l g c
  refine Or.inr (fun h9 => ?_)
  have := h9.1
  omega
theorem hl_111 {c G s i n l g a : Int} (p0 : rf_XP xt 40 [] [13, a, i, c]) (q0 : l ≤ a + 2) : rf_XP xt 40 [] [12, c, G, s, i, n, l, g] := by
  have e : a = i + 3 * c := p0
  show c = n ∨ ¬ rf_gok G s i l g c
  refine Or.inr (fun h9 => ?_)
  have := h9.2.1
  omega
theorem hl_112 {c G s i n l g a r t : Int} (p0 : rf_XP xt 40 [] [13, a, i, c]) (p1 : rf_XP xt 40 [] [9, r, G, s, a]) (p2 : rf_XP xt 35 [] [5, r, 0, t]) (q0 : t ≤ -1) : rf_XP xt 40 [] [12, c, G, s, i, n, l, g] := by
  have e : a = i + 3 * c := p0
  have e1 : r = rf_dc (60 * s + a).toNat G := p1
  have e2 : t = rf_wop 5 r 0 := p2
  show c = n ∨ ¬ rf_gok G s i l g c
  refine Or.inr (fun h9 => ?_)
  have h8 := h9.2.2.2.1
  rw [show 60 * s + i + 3 * c = 60 * s + a by omega, ← e1, ← e2] at h8
  omega
theorem hl_113 {c G s i n l g a r t : Int} (p0 : rf_XP xt 40 [] [13, a, i, c]) (p1 : rf_XP xt 40 [] [9, r, G, s, a]) (p2 : rf_XP xt 35 [] [5, r, 0, t]) (q0 : 10 ≤ t) : rf_XP xt 40 [] [12, c, G, s, i, n, l, g] := by
  have e : a = i + 3 * c := p0
  have e1 : r = rf_dc (60 * s + a).toNat G := p1
  have e2 : t = rf_wop 5 r 0 := p2
  show c = n ∨ ¬ rf_gok G s i l g c
  refine Or.inr (fun h9 => ?_)
  have h8 := h9.2.2.2.1
  rw [show 60 * s + i + 3 * c = 60 * s + a by omega, ← e1, ← e2] at h8
  omega
theorem hl_114 {c G s i n l g a r t : Int} (p0 : rf_XP xt 40 [] [13, a, i, c]) (p1 : rf_XP xt 40 [] [9, r, G, s, a + 1]) (p2 : rf_XP xt 35 [] [5, r, 0, t]) (q0 : t ≤ -1) : rf_XP xt 40 [] [12, c, G, s, i, n, l, g] := by
  have e : a = i + 3 * c := p0
  have e1 : r = rf_dc (60 * s + (a + 1)).toNat G := p1
  have e2 : t = rf_wop 5 r 0 := p2
  show c = n ∨ ¬ rf_gok G s i l g c
  refine Or.inr (fun h9 => ?_)
  have h8 := h9.2.2.2.2.1
  rw [show 60 * s + i + 3 * c + 1 = 60 * s + (a + 1) by omega, ← e1, ← e2] at h8
  omega
theorem hl_115 {c G s i n l g a r t : Int} (p0 : rf_XP xt 40 [] [13, a, i, c]) (p1 : rf_XP xt 40 [] [9, r, G, s, a + 1]) (p2 : rf_XP xt 35 [] [5, r, 0, t]) (q0 : 51 ≤ t) : rf_XP xt 40 [] [12, c, G, s, i, n, l, g] := by
  have e : a = i + 3 * c := p0
  have e1 : r = rf_dc (60 * s + (a + 1)).toNat G := p1
  have e2 : t = rf_wop 5 r 0 := p2
  show c = n ∨ ¬ rf_gok G s i l g c
  refine Or.inr (fun h9 => ?_)
  have h8 := h9.2.2.2.2.1
  rw [show 60 * s + i + 3 * c + 1 = 60 * s + (a + 1) by omega, ← e1, ← e2] at h8
  omega
theorem hl_116 {c G s i n l g a r t : Int} (p0 : rf_XP xt 40 [] [13, a, i, c]) (p1 : rf_XP xt 40 [] [9, r, G, s, a + 2]) (p2 : rf_XP xt 35 [] [5, r, 0, t]) (q0 : t ≤ -1) : rf_XP xt 40 [] [12, c, G, s, i, n, l, g] := by
  have e : a = i + 3 * c := p0
  have e1 : r = rf_dc (60 * s + (a + 2)).toNat G := p1
  have e2 : t = rf_wop 5 r 0 := p2
  show c = n ∨ ¬ rf_gok G s i l g c
  refine Or.inr (fun h9 => ?_)
  have h8 := h9.2.2.2.2.2
  rw [show 60 * s + i + 3 * c + 2 = 60 * s + (a + 2) by omega, ← e1, ← e2] at h8
  omega
theorem hl_117 {c G s i n l g a r t : Int} (p0 : rf_XP xt 40 [] [13, a, i, c]) (p1 : rf_XP xt 40 [] [9, r, G, s, a + 2]) (p2 : rf_XP xt 35 [] [5, r, 0, t]) (q0 : 4 ≤ t) : rf_XP xt 40 [] [12, c, G, s, i, n, l, g] := by
  have e : a = i + 3 * c := p0
  have e1 : r = rf_dc (60 * s + (a + 2)).toNat G := p1
  have e2 : t = rf_wop 5 r 0 := p2
  show c = n ∨ ¬ rf_gok G s i l g c
  refine Or.inr (fun h9 => ?_)
  have h8 := h9.2.2.2.2.2
  rw [show 60 * s + i + 3 * c + 2 = 60 * s + (a + 2) by omega, ← e1, ← e2] at h8
  omega
theorem hl_118 {c G s i n l g t : Int} (p0 : rf_XP xt 40 [] [11, c, G, s, i, n, l, g]) (q0 : s ≤ t) (q1 : t ≤ s) : rf_XP xt 40 [] [11, c, G, t, i, n, l, g] := by
  rw [show t = s by omega]
  exact p0
theorem hl_119 {c G s i n l g t : Int} (p0 : rf_XP xt 40 [] [12, c, G, s, i, n, l, g]) (q0 : s ≤ t) (q1 : t ≤ s) : rf_XP xt 40 [] [12, c, G, t, i, n, l, g] := by
  rw [show t = s by omega]
  exact p0
theorem hl_120 {c G s i n l g d t j m k h : Int} (p0 : rf_XP xt 40 [] [11, c, G, s, i, n, l, g]) (p1 : rf_XP xt 40 [] [12, c, G, s, i, n, l, g]) (p2 : rf_XP xt 40 [] [11, d, G, t, j, m, k, h]) (p3 : rf_XP xt 40 [] [12, d, G, t, j, m, k, h]) (q0 : s ≤ t) (q1 : t ≤ s) (q2 : i ≤ j) (q3 : j ≤ i) (q4 : n ≤ m) (q5 : m ≤ n) (q6 : l ≤ k) (q7 : k ≤ l) (q8 : g ≤ h) (q9 : h ≤ g) : c ≤ d ∧ d ≤ c := by
  obtain ⟨a0, a1, a2⟩ : 0 ≤ c ∧ c ≤ n ∧ ∀ k : Int, 0 ≤ k → k < c → rf_gok G s i l g k := p0
  have b0 : c = n ∨ ¬ rf_gok G s i l g c := p1
  obtain ⟨c0, c1, c2⟩ : 0 ≤ d ∧ d ≤ m ∧ ∀ z : Int, 0 ≤ z → z < d → rf_gok G t j k h z := p2
  have d0 : d = m ∨ ¬ rf_gok G t j k h d := p3
  rw [show t = s by omega, show j = i by omega, show k = l by omega, show h = g by omega] at c2 d0
  by_cases h1 : c < d
  · rcases b0 with b0 | b0
    · omega
    · exact absurd (c2 c a0 h1) b0
  · by_cases h2 : d < c
    · rcases d0 with d0 | d0
      · omega
      · exact absurd (a2 d c0 h2) d0
    · omega
theorem hl_121 {e q G s x i f : Int} (p0 : rf_XP xt 36 [] [f, q, G]) (p1 : rf_XP xt 11 [] [60, s, x]) (p2 : rf_XP xt 10 [] [x, i, e]) (q0 : f ≤ e + 1) (q1 : e + 1 ≤ f) : rf_XP xt 40 [] [9, q, G, s, i + 1] := by
  have a0 : q = rf_dc f.toNat G := p0.2
  have b0 : x = 60 * s := p1
  have c0 : e = x + i := p2
  show q = rf_dc (60 * s + (i + 1)).toNat G
  rw [a0]
  congr 1
  omega
theorem hl_122 {e q G s x i f : Int} (p0 : rf_XP xt 36 [] [f, q, G]) (p1 : rf_XP xt 11 [] [60, s, x]) (p2 : rf_XP xt 10 [] [x, i, e]) (q0 : f ≤ e + 2) (q1 : e + 2 ≤ f) : rf_XP xt 40 [] [9, q, G, s, i + 2] := by
  have a0 : q = rf_dc f.toNat G := p0.2
  have b0 : x = 60 * s := p1
  have c0 : e = x + i := p2
  show q = rf_dc (60 * s + (i + 2)).toNat G
  rw [a0]
  congr 1
  omega
theorem hl_123 {h i1 v1 g : Int} (p0 : rf_XP xt 41 [] [h, i1, v1, g]) (q0 : i1 ≤ 0) (q1 : 0 ≤ i1) (q2 : -9223372036854775808 ≤ v1) (q3 : v1 ≤ 9223372036854775807) : rf_XP xt 36 [] [0, v1, h] := by
  have e : h = rf_up i1.toNat v1 g := p0
  refine ⟨by omega, ?_⟩
  show v1 = rf_dc (0 : Int).toNat h
  rw [e, rf_dc_up q2 q3, if_pos (by omega)]
theorem hl_124 {h i1 v1 i2 v2 g : Int} (p0 : rf_XP xt 41 [] [h, i1, v1, i2, v2, g]) (q0 : 1 ≤ i1) (q1 : i2 ≤ 0) (q2 : 0 ≤ i2) (q3 : -9223372036854775808 ≤ v1) (q4 : v1 ≤ 9223372036854775807) (q5 : -9223372036854775808 ≤ v2) (q6 : v2 ≤ 9223372036854775807) : rf_XP xt 36 [] [0, v2, h] := by
  have e : h = rf_up i1.toNat v1 (rf_up i2.toNat v2 g) := p0
  refine ⟨by omega, ?_⟩
  show v2 = rf_dc (0 : Int).toNat h
  rw [e, rf_dc_up q3 q4, if_neg (by omega), rf_dc_up q5 q6, if_pos (by omega)]
theorem hl_125 {h i1 v1 i2 v2 i3 v3 g : Int} (p0 : rf_XP xt 41 [] [h, i1, v1, i2, v2, i3, v3, g]) (q0 : 1 ≤ i1) (q1 : 1 ≤ i2) (q2 : i3 ≤ 0) (q3 : 0 ≤ i3) (q4 : -9223372036854775808 ≤ v1) (q5 : v1 ≤ 9223372036854775807) (q6 : -9223372036854775808 ≤ v2) (q7 : v2 ≤ 9223372036854775807) (q8 : -9223372036854775808 ≤ v3) (q9 : v3 ≤ 9223372036854775807) : rf_XP xt 36 [] [0, v3, h] := by
  have e : h = rf_up i1.toNat v1 (rf_up i2.toNat v2 (rf_up i3.toNat v3 g)) := p0
  refine ⟨by omega, ?_⟩
  show v3 = rf_dc (0 : Int).toNat h
  rw [e, rf_dc_up q4 q5, if_neg (by omega), rf_dc_up q6 q7, if_neg (by omega), rf_dc_up q8 q9, if_pos (by omega)]
theorem hl_126 {h i1 v1 i2 v2 i3 v3 i4 v4 g : Int} (p0 : rf_XP xt 41 [] [h, i1, v1, i2, v2, i3, v3, i4, v4, g]) (q0 : 1 ≤ i1) (q1 : 1 ≤ i2) (q2 : 1 ≤ i3) (q3 : i4 ≤ 0) (q4 : 0 ≤ i4) (q5 : -9223372036854775808 ≤ v1) (q6 : v1 ≤ 9223372036854775807) (q7 : -9223372036854775808 ≤ v2) (q8 : v2 ≤ 9223372036854775807) (q9 : -9223372036854775808 ≤ v3) (q10 : v3 ≤ 9223372036854775807) (q11 : -9223372036854775808 ≤ v4) (q12 : v4 ≤ 9223372036854775807) : rf_XP xt 36 [] [0, v4, h] := by
  have e : h = rf_up i1.toNat v1 (rf_up i2.toNat v2 (rf_up i3.toNat v3 (rf_up i4.toNat v4 g))) := p0
  refine ⟨by omega, ?_⟩
  show v4 = rf_dc (0 : Int).toNat h
  rw [e, rf_dc_up q5 q6, if_neg (by omega), rf_dc_up q7 q8, if_neg (by omega), rf_dc_up q9 q10, if_neg (by omega), rf_dc_up q11 q12, if_pos (by omega)]
theorem hl_127   : rf_XP xt 36 [] [0, 0, 0] := by
  exact ⟨by decide, rfl⟩
theorem hl_128 (p0 : rf_XP xt 30 [o] [80, 6, 79, 20, 78, 50, 77, 0, 76, 0, 75, 0, 74, 0, 73, 0, 72, 0, 71, 0, 70, 5, 69, 5, 68, 5, 67, 5, 66, 5, 65, 5, 64, 5, 63, 0, 62, 0, 61, 0, 60, 0, 59, 0, 58, 0, 57, 0, 56, 0, 55, 0, 54, 0, 53, 0, 52, 0, 51, 0, 50, 0, 49, 0, 48, 0, 47, 0, 46, 0, 45, 0, 44, 0, 43, 0, 42, 0, 41, 0, 40, 0, 39, 0, 38, 0, 37, 0, 36, 0, 35, 1, 34, 1, 33, 1, 32, 1, 31, 1, 30, 1, 29, 1, 28, 1, 27, 1, 26, 1, 25, 1, 24, 1, 23, 1, 22, 1, 21, 1, 20, 1, 19, 1, 18, 1, 17, 1, 16, 1, 15, 1, 14, 1, 13, 1, 12, 1, 11, 1, 10, 1, 9, 1, 8, 1, 7, 1, 6, 1, 5, 1, 4, 1, 3, 50, 2, 50, 1, 50, 0, 50, 0])  : ∃ y1 : Int, (0 ≤ y1 ∧ y1 ≤ rf_BIG) ∧ rf_XP xt 30 [o] [y1] ∧ rf_XP xt 40 [] [27, y1] := by
  obtain ⟨e, rfl⟩ := hc_some p0
  have h0 : ∀ j : Nat, j < 81 → rf_dc j (rf_chn [80, 6, 79, 20, 78, 50, 77, 0, 76, 0, 75, 0, 74, 0, 73, 0, 72, 0, 71, 0, 70, 5, 69, 5, 68, 5, 67, 5, 66, 5, 65, 5, 64, 5, 63, 0, 62, 0, 61, 0, 60, 0, 59, 0, 58, 0, 57, 0, 56, 0, 55, 0, 54, 0, 53, 0, 52, 0, 51, 0, 50, 0, 49, 0, 48, 0, 47, 0, 46, 0, 45, 0, 44, 0, 43, 0, 42, 0, 41, 0, 40, 0, 39, 0, 38, 0, 37, 0, 36, 0, 35, 1, 34, 1, 33, 1, 32, 1, 31, 1, 30, 1, 29, 1, 28, 1, 27, 1, 26, 1, 25, 1, 24, 1, 23, 1, 22, 1, 21, 1, 20, 1, 19, 1, 18, 1, 17, 1, 16, 1, 15, 1, 14, 1, 13, 1, 12, 1, 11, 1, 10, 1, 9, 1, 8, 1, 7, 1, 6, 1, 5, 1, 4, 1, 3, 50, 2, 50, 1, 50, 0, 50, 0]) = rf_in0 j := by decide +kernel
  have z0 : ∀ xs : List Int, rf_XP xt 30 [some e] xs → rf_XP xt 30 [some e] [rf_chn xs] := fun _ h => h
  have z1 : ∀ y : Int, (∀ j : Nat, j < 81 → rf_dc j y = rf_in0 j) → rf_XP xt 40 [] [27, y] := fun _ h => h
  exact ⟨rf_chn [80, 6, 79, 20, 78, 50, 77, 0, 76, 0, 75, 0, 74, 0, 73, 0, 72, 0, 71, 0, 70, 5, 69, 5, 68, 5, 67, 5, 66, 5, 65, 5, 64, 5, 63, 0, 62, 0, 61, 0, 60, 0, 59, 0, 58, 0, 57, 0, 56, 0, 55, 0, 54, 0, 53, 0, 52, 0, 51, 0, 50, 0, 49, 0, 48, 0, 47, 0, 46, 0, 45, 0, 44, 0, 43, 0, 42, 0, 41, 0, 40, 0, 39, 0, 38, 0, 37, 0, 36, 0, 35, 1, 34, 1, 33, 1, 32, 1, 31, 1, 30, 1, 29, 1, 28, 1, 27, 1, 26, 1, 25, 1, 24, 1, 23, 1, 22, 1, 21, 1, 20, 1, 19, 1, 18, 1, 17, 1, 16, 1, 15, 1, 14, 1, 13, 1, 12, 1, 11, 1, 10, 1, 9, 1, 8, 1, 7, 1, 6, 1, 5, 1, 4, 1, 3, 50, 2, 50, 1, 50, 0, 50, 0], by decide +kernel, z0 _ p0, z1 _ h0⟩
theorem hl_129 (p0 : rf_XP xt 30 [o] [3, 50, 2, 50, 1, 50, 0, 50, 0])  : ∃ y1 : Int, (0 ≤ y1 ∧ y1 ≤ rf_BIG) ∧ rf_XP xt 30 [o] [y1] ∧ rf_XP xt 40 [] [28, y1, 50, 4] := by
  obtain ⟨e, rfl⟩ := hc_some p0
  have h0 : ∀ j : Nat, j < 4 → rf_dc j (rf_chn [3, 50, 2, 50, 1, 50, 0, 50, 0]) = 50 := by decide +kernel
  refine ⟨rf_chn [3, 50, 2, 50, 1, 50, 0, 50, 0], by decide +kernel, p0, ?_⟩
  show ∀ j : Nat, (j : Int) < 4 → rf_dc j (rf_chn [3, 50, 2, 50, 1, 50, 0, 50, 0]) = 50
  exact fun j hj => h0 j (by omega)
theorem hl_130 (p0 : rf_XP xt 30 [o] [3, 1, 2, 1, 1, 1, 0, 1, 0])  : ∃ y1 : Int, (0 ≤ y1 ∧ y1 ≤ rf_BIG) ∧ rf_XP xt 30 [o] [y1] ∧ rf_XP xt 40 [] [28, y1, 1, 4] := by
  obtain ⟨e, rfl⟩ := hc_some p0
  have h0 : ∀ j : Nat, j < 4 → rf_dc j (rf_chn [3, 1, 2, 1, 1, 1, 0, 1, 0]) = 1 := by decide +kernel
  refine ⟨rf_chn [3, 1, 2, 1, 1, 1, 0, 1, 0], by decide +kernel, p0, ?_⟩
  show ∀ j : Nat, (j : Int) < 4 → rf_dc j (rf_chn [3, 1, 2, 1, 1, 1, 0, 1, 0]) = 1
  exact fun j hj => h0 j (by omega)
theorem hl_131 {T O W K B S E : Int} (p0 : rf_XP xt 40 [] [27, T]) (p1 : rf_XP xt 40 [] [28, O, 50, 4]) (p2 : rf_XP xt 40 [] [28, W, 1, 4])  : rf_XP xt 40 [] [14, T, O, W, K, B, S, E, 50, 20, 6, 0] := by
  have a : ∀ j : Nat, j < 81 → rf_dc j T = rf_in0 j := p0
  have b : ∀ j : Nat, (j : Int) < 4 → rf_dc j O = 50 := p1
  have c : ∀ j : Nat, (j : Int) < 4 → rf_dc j W = 1 := p2
  show rf_hs T O W K B S E 50 20 6 0
  refine ⟨fun j hj => ?_, fun j hj => ⟨fun h => absurd h (by omega), fun _ => ?_⟩, fun j _ h => absurd h (by omega), ?_, ?_, ?_⟩
  · rw [a j (by omega), a (4 + j) (by omega), b j (by omega), c j (by omega)]
    unfold rf_in0
    rw [if_pos hj, if_neg (by omega), if_pos (by omega)]
    exact ⟨rfl, rfl⟩
  · rw [a (36 + j) (by omega)]
    unfold rf_in0
    rw [if_neg (by omega), if_neg (by omega), if_pos (by omega)]
  · rw [a 78 (by omega)]; rfl
  · rw [a 79 (by omega)]; rfl
  · rw [a 80 (by omega)]; rfl
theorem hl_132 {n gs : Int}  (q0 : n ≤ -1) : rf_XP xt 40 [] [21, n, gs, -1] := by
  show (-1 : Int) = rf_pr n gs
  unfold rf_pr
  rw [if_neg (by omega)]
theorem hl_133 {n gs a : Int} (p0 : rf_XP xt 2 [] [n, 10, a]) (q0 : gs ≤ a) (q1 : 0 ≤ n) : rf_XP xt 40 [] [21, n, gs, -1] := by
  have ea : a = n / 10 := by
    have z : a = n.tdiv 10 := p0
    rw [z]
    exact Int.tdiv_eq_ediv_of_nonneg (by omega)
  show (-1 : Int) = rf_pr n gs
  unfold rf_pr
  rw [if_neg (by omega)]
theorem hl_134 {n gs b : Int} (p0 : rf_XP xt 3 [] [n, 10, b]) (q0 : 4 ≤ b) (q1 : 0 ≤ n) : rf_XP xt 40 [] [21, n, gs, -1] := by
  have eb : b = n % 10 := by
    have z : b = n.tmod 10 := p0
    rw [z]
    exact Int.tmod_eq_emod_of_nonneg (by omega)
  show (-1 : Int) = rf_pr n gs
  unfold rf_pr
  rw [if_neg (by omega)]
theorem hl_135 {n gs a b c d x p : Int} (p0 : rf_XP xt 2 [] [n, 10, a]) (p1 : rf_XP xt 3 [] [n, 10, b]) (p2 : rf_XP xt 2 [] [n, 10, c]) (p3 : rf_XP xt 11 [] [c, 4, x]) (p4 : rf_XP xt 3 [] [n, 10, d]) (p5 : rf_XP xt 10 [] [x, d, p]) (q0 : 0 ≤ n) (q1 : a + 1 ≤ gs) (q2 : b ≤ 3) : rf_XP xt 40 [] [21, n, gs, p] := by
  have ea : a = n / 10 := by
    have z : a = n.tdiv 10 := p0
    rw [z]
    exact Int.tdiv_eq_ediv_of_nonneg (by omega)
  have eb : b = n % 10 := by
    have z : b = n.tmod 10 := p1
    rw [z]
    exact Int.tmod_eq_emod_of_nonneg (by omega)
  have ec : c = n / 10 := by
    have z : c = n.tdiv 10 := p2
    rw [z]
    exact Int.tdiv_eq_ediv_of_nonneg (by omega)
  have ed : d = n % 10 := by
    have z : d = n.tmod 10 := p4
    rw [z]
    exact Int.tmod_eq_emod_of_nonneg (by omega)
  have ex : x = c * 4 := p3
  have ep : p = x + d := p5
  show p = rf_pr n gs
  unfold rf_pr
  rw [if_pos (by omega)]
  omega
theorem hl_136 {n gs a b : Int} (p0 : rf_XP xt 2 [] [n, 10, a]) (p1 : rf_XP xt 3 [] [n, 10, b]) (q0 : 0 ≤ n) (q1 : a + 1 ≤ gs) (q2 : b ≤ 3) : rf_XP xt 40 [] [31, n, gs, 1] := by
  have ea : a = n / 10 := by
    have z : a = n.tdiv 10 := p0
    rw [z]
    exact Int.tdiv_eq_ediv_of_nonneg (by omega)
  have eb : b = n % 10 := by
    have z : b = n.tmod 10 := p1
    rw [z]
    exact Int.tmod_eq_emod_of_nonneg (by omega)
  show (1 : Int) = if 0 ≤ rf_pr n gs then 1 else 0
  unfold rf_pr
  rw [if_pos (show 0 ≤ n ∧ n / 10 < gs ∧ n % 10 ≤ 3 by omega), if_pos (by omega)]
theorem hl_137 {n gs : Int}  (q0 : n ≤ -1) : rf_XP xt 40 [] [31, n, gs, 0] := by
  show (0 : Int) = if 0 ≤ rf_pr n gs then 1 else 0
  unfold rf_pr
  rw [if_neg (show ¬ (0 ≤ n ∧ n / 10 < gs ∧ n % 10 ≤ 3) by omega), if_neg (by omega)]
theorem hl_138 {n gs a : Int} (p0 : rf_XP xt 2 [] [n, 10, a]) (q0 : gs ≤ a) (q1 : 0 ≤ n) : rf_XP xt 40 [] [31, n, gs, 0] := by
  have ea : a = n / 10 := by
    have z : a = n.tdiv 10 := p0
    rw [z]
    exact Int.tdiv_eq_ediv_of_nonneg (by omega)
  show (0 : Int) = if 0 ≤ rf_pr n gs then 1 else 0
  unfold rf_pr
  rw [if_neg (show ¬ (0 ≤ n ∧ n / 10 < gs ∧ n % 10 ≤ 3) by omega), if_neg (by omega)]
theorem hl_139 {n gs b : Int} (p0 : rf_XP xt 3 [] [n, 10, b]) (q0 : 4 ≤ b) (q1 : 0 ≤ n) : rf_XP xt 40 [] [31, n, gs, 0] := by
  have eb : b = n % 10 := by
    have z : b = n.tmod 10 := p0
    rw [z]
    exact Int.tmod_eq_emod_of_nonneg (by omega)
  show (0 : Int) = if 0 ≤ rf_pr n gs then 1 else 0
  unfold rf_pr
  rw [if_neg (show ¬ (0 ≤ n ∧ n / 10 < gs ∧ n % 10 ≤ 3) by omega), if_neg (by omega)]
theorem hl_140 {n a b x p : Int} (p0 : rf_XP xt 2 [] [n, 10, a]) (p1 : rf_XP xt 11 [] [4, a, x]) (p2 : rf_XP xt 3 [] [n, 10, b]) (p3 : rf_XP xt 10 [] [x, b, p]) (q0 : 0 ≤ n) : rf_XP xt 40 [] [32, n, p] := by
  have ea : a = n / 10 := by
    have z : a = n.tdiv 10 := p0
    rw [z]
    exact Int.tdiv_eq_ediv_of_nonneg (by omega)
  have eb : b = n % 10 := by
    have z : b = n.tmod 10 := p2
    rw [z]
    exact Int.tmod_eq_emod_of_nonneg (by omega)
  have ex : x = 4 * a := p1
  have ep : p = x + b := p3
  show 0 ≤ n ∧ p = 4 * (n / 10) + n % 10
  omega
theorem hl_141 {n w gs : Int}  (q0 : w ≤ 0) (q1 : 0 ≤ w) (q2 : 0 ≤ n) (q3 : n ≤ 3) : rf_XP xt 40 [] [19, n, w, gs, n] := by
  have hw : w = 0 := by omega
  subst hw
  show n = rf_pl n 0 gs
  have ei : rf_ix n 0 gs = n := by
    rw [rf_ix01 (Or.inl rfl)]
    exact if_pos (by omega)
  unfold rf_pl
  rw [ei, if_pos (by omega)]
  show n = 0 + n
  omega
theorem hl_142 {n w gs : Int}  (q0 : w ≤ 1) (q1 : 1 ≤ w) (q2 : 0 ≤ n) (q3 : n ≤ 3) : rf_XP xt 40 [] [19, n, w, gs, n + 4] := by
  have hw : w = 1 := by omega
  subst hw
  show n + 4 = rf_pl n 1 gs
  have ei : rf_ix n 1 gs = n := by
    rw [rf_ix01 (Or.inr rfl)]
    exact if_pos (by omega)
  unfold rf_pl
  rw [ei, if_pos (by omega)]
  show n + 4 = 4 + n
  omega
theorem hl_143 {n w gs q : Int} (p0 : rf_XP xt 40 [] [21, n, gs, q]) (q0 : w ≤ 2) (q1 : 2 ≤ w) (q2 : 0 ≤ q) : rf_XP xt 40 [] [19, n, w, gs, q + 8] := by
  have hw : w = 2 := by omega
  subst hw
  show q + 8 = rf_pl n 2 gs
  have ei : rf_ix n 2 gs = q := by
    rw [rf_ix23 (Or.inl rfl)]
    exact (show q = rf_pr n gs from p0).symm
  unfold rf_pl
  rw [ei, if_pos (by omega)]
  show q + 8 = 8 + q
  omega
theorem hl_144 {n w gs q : Int} (p0 : rf_XP xt 40 [] [21, n, gs, q]) (q0 : w ≤ 3) (q1 : 3 ≤ w) (q2 : 0 ≤ q) : rf_XP xt 40 [] [19, n, w, gs, q + 36] := by
  have hw : w = 3 := by omega
  subst hw
  show q + 36 = rf_pl n 3 gs
  have ei : rf_ix n 3 gs = q := by
    rw [rf_ix23 (Or.inr rfl)]
    exact (show q = rf_pr n gs from p0).symm
  unfold rf_pl
  rw [ei, if_pos (by omega)]
  show q + 36 = 36 + q
  omega
theorem hl_145 {n w gs : Int}  (q0 : w ≤ 4) (q1 : 4 ≤ w) (q2 : 0 ≤ n) (q3 : n + 1 ≤ gs) : rf_XP xt 40 [] [19, n, w, gs, n + 64] := by
  have hw : w = 4 := by omega
  subst hw
  show n + 64 = rf_pl n 4 gs
  have ei : rf_ix n 4 gs = n := by
    rw [rf_ix45 (Or.inl rfl)]
    exact if_pos (by omega)
  unfold rf_pl
  rw [ei, if_pos (by omega)]
  show n + 64 = 64 + n
  omega
theorem hl_146 {n w gs : Int}  (q0 : w ≤ 5) (q1 : 5 ≤ w) (q2 : 0 ≤ n) (q3 : n + 1 ≤ gs) : rf_XP xt 40 [] [19, n, w, gs, n + 71] := by
  have hw : w = 5 := by omega
  subst hw
  show n + 71 = rf_pl n 5 gs
  have ei : rf_ix n 5 gs = n := by
    rw [rf_ix45 (Or.inr rfl)]
    exact if_pos (by omega)
  unfold rf_pl
  rw [ei, if_pos (by omega)]
  show n + 71 = 71 + n
  omega
theorem hl_147 {n w gs : Int}  (q0 : w ≤ 6) (q1 : 6 ≤ w) (q2 : n ≤ 0) (q3 : 0 ≤ n) : rf_XP xt 40 [] [19, n, w, gs, 78] := by
  have hw : w = 6 := by omega
  subst hw
  show (78 : Int) = rf_pl n 6 gs
  have ei : rf_ix n 6 gs = 0 := by
    rw [rf_ix68 (by omega)]
    exact if_pos (by omega)
  unfold rf_pl
  rw [ei, if_pos (by omega)]
  show (78 : Int) = 78 + 0
  omega
theorem hl_148 {n w gs : Int}  (q0 : w ≤ 7) (q1 : 7 ≤ w) (q2 : n ≤ 0) (q3 : 0 ≤ n) : rf_XP xt 40 [] [19, n, w, gs, 79] := by
  have hw : w = 7 := by omega
  subst hw
  show (79 : Int) = rf_pl n 7 gs
  have ei : rf_ix n 7 gs = 0 := by
    rw [rf_ix68 (by omega)]
    exact if_pos (by omega)
  unfold rf_pl
  rw [ei, if_pos (by omega)]
  show (79 : Int) = 79 + 0
  omega
theorem hl_149 {n w gs : Int}  (q0 : w ≤ 8) (q1 : 8 ≤ w) (q2 : n ≤ 0) (q3 : 0 ≤ n) : rf_XP xt 40 [] [19, n, w, gs, 80] := by
  have hw : w = 8 := by omega
  subst hw
  show (80 : Int) = rf_pl n 8 gs
  have ei : rf_ix n 8 gs = 0 := by
    rw [rf_ix68 (by omega)]
    exact if_pos (by omega)
  unfold rf_pl
  rw [ei, if_pos (by omega)]
  show (80 : Int) = 80 + 0
  omega
theorem hl_150 {n w gs : Int}  (q0 : 0 ≤ w) (q1 : w ≤ 1) (q2 : n ≤ -1) : rf_XP xt 40 [] [19, n, w, gs, -1] := by
  show (-1 : Int) = rf_pl n w gs
  have ei : rf_ix n w gs = -1 := by
    rw [rf_ix01 (by omega)]
    exact if_neg (by omega)
  unfold rf_pl
  rw [ei, if_neg (by omega)]
theorem hl_151 {n w gs : Int}  (q0 : 0 ≤ w) (q1 : w ≤ 1) (q2 : 4 ≤ n) : rf_XP xt 40 [] [19, n, w, gs, -1] := by
  show (-1 : Int) = rf_pl n w gs
  have ei : rf_ix n w gs = -1 := by
    rw [rf_ix01 (by omega)]
    exact if_neg (by omega)
  unfold rf_pl
  rw [ei, if_neg (by omega)]
theorem hl_152 {n w gs q : Int} (p0 : rf_XP xt 40 [] [21, n, gs, q]) (q0 : 2 ≤ w) (q1 : w ≤ 3) (q2 : q ≤ -1) : rf_XP xt 40 [] [19, n, w, gs, -1] := by
  show (-1 : Int) = rf_pl n w gs
  have ei : rf_ix n w gs = -1 := by
    rw [rf_ix23 (by omega)]
    have e : q = rf_pr n gs := p0
    have e2 := rf_pr_ge n gs
    omega
  unfold rf_pl
  rw [ei, if_neg (by omega)]
theorem hl_153 {n w gs : Int}  (q0 : 4 ≤ w) (q1 : w ≤ 5) (q2 : n ≤ -1) : rf_XP xt 40 [] [19, n, w, gs, -1] := by
  show (-1 : Int) = rf_pl n w gs
  have ei : rf_ix n w gs = -1 := by
    rw [rf_ix45 (by omega)]
    exact if_neg (by omega)
  unfold rf_pl
  rw [ei, if_neg (by omega)]
theorem hl_154 {n w gs : Int}  (q0 : 4 ≤ w) (q1 : w ≤ 5) (q2 : gs ≤ n) : rf_XP xt 40 [] [19, n, w, gs, -1] := by
  show (-1 : Int) = rf_pl n w gs
  have ei : rf_ix n w gs = -1 := by
    rw [rf_ix45 (by omega)]
    exact if_neg (by omega)
  unfold rf_pl
  rw [ei, if_neg (by omega)]
theorem hl_155 {n w gs : Int}  (q0 : 6 ≤ w) (q1 : w ≤ 8) (q2 : n ≤ -1) : rf_XP xt 40 [] [19, n, w, gs, -1] := by
  show (-1 : Int) = rf_pl n w gs
  have ei : rf_ix n w gs = -1 := by
    rw [rf_ix68 (by omega)]
    exact if_neg (by omega)
  unfold rf_pl
  rw [ei, if_neg (by omega)]
theorem hl_156 {n w gs : Int}  (q0 : 6 ≤ w) (q1 : w ≤ 8) (q2 : 1 ≤ n) : rf_XP xt 40 [] [19, n, w, gs, -1] := by
  show (-1 : Int) = rf_pl n w gs
  have ei : rf_ix n w gs = -1 := by
    rw [rf_ix68 (by omega)]
    exact if_neg (by omega)
  unfold rf_pl
  rw [ei, if_neg (by omega)]
theorem hl_157 {n w gs : Int}  (q0 : w ≤ -1) : rf_XP xt 40 [] [19, n, w, gs, -1] := by
  show (-1 : Int) = rf_pl n w gs
  have ei : rf_ix n w gs = -1 := by
    exact rf_ixn (by omega)
  unfold rf_pl
  rw [ei, if_neg (by omega)]
theorem hl_158 {n w gs : Int}  (q0 : 9 ≤ w) : rf_XP xt 40 [] [19, n, w, gs, -1] := by
  show (-1 : Int) = rf_pl n w gs
  have ei : rf_ix n w gs = -1 := by
    exact rf_ixn (by omega)
  unfold rf_pl
  rw [ei, if_neg (by omega)]
theorem hl_159 {w v : Int}  (q0 : w ≤ 0) (q1 : 0 ≤ w) (q2 : 0 ≤ v) (q3 : v ≤ 99) : rf_XP xt 40 [] [26, w, v, 1] := by
  have hw : w = 0 := by omega
  subst hw
  show (1 : Int) = if 0 ≤ v ∧ v ≤ 99 then 1 else 0
  rw [if_pos (by omega)]
theorem hl_160 {w v : Int}  (q0 : w ≤ 0) (q1 : 0 ≤ w) (q2 : 100 ≤ v) : rf_XP xt 40 [] [26, w, v, 0] := by
  have hw : w = 0 := by omega
  subst hw
  show (0 : Int) = if 0 ≤ v ∧ v ≤ 99 then 1 else 0
  rw [if_neg (by omega)]
theorem hl_161 {w v : Int}  (q0 : w ≤ 1) (q1 : 1 ≤ w) (q2 : 0 ≤ v) (q3 : v ≤ 9) : rf_XP xt 40 [] [26, w, v, 1] := by
  have hw : w = 1 := by omega
  subst hw
  show (1 : Int) = if 0 ≤ v ∧ v ≤ 9 then 1 else 0
  rw [if_pos (by omega)]
theorem hl_162 {w v : Int}  (q0 : w ≤ 1) (q1 : 1 ≤ w) (q2 : 10 ≤ v) : rf_XP xt 40 [] [26, w, v, 0] := by
  have hw : w = 1 := by omega
  subst hw
  show (0 : Int) = if 0 ≤ v ∧ v ≤ 9 then 1 else 0
  rw [if_neg (by omega)]
theorem hl_163 {w v : Int}  (q0 : w ≤ 2) (q1 : 2 ≤ w) (q2 : 0 ≤ v) (q3 : v ≤ 9) : rf_XP xt 40 [] [26, w, v, 1] := by
  have hw : w = 2 := by omega
  subst hw
  show (1 : Int) = if 0 ≤ v ∧ v ≤ 9 then 1 else 0
  rw [if_pos (by omega)]
theorem hl_164 {w v : Int}  (q0 : w ≤ 2) (q1 : 2 ≤ w) (q2 : 10 ≤ v) : rf_XP xt 40 [] [26, w, v, 0] := by
  have hw : w = 2 := by omega
  subst hw
  show (0 : Int) = if 0 ≤ v ∧ v ≤ 9 then 1 else 0
  rw [if_neg (by omega)]
theorem hl_165 {w v : Int}  (q0 : w ≤ 3) (q1 : 3 ≤ w) (q2 : 0 ≤ v) (q3 : v ≤ 20) : rf_XP xt 40 [] [26, w, v, 1] := by
  have hw : w = 3 := by omega
  subst hw
  show (1 : Int) = if 0 ≤ v ∧ v ≤ 20 then 1 else 0
  rw [if_pos (by omega)]
theorem hl_166 {w v : Int}  (q0 : w ≤ 3) (q1 : 3 ≤ w) (q2 : 21 ≤ v) : rf_XP xt 40 [] [26, w, v, 0] := by
  have hw : w = 3 := by omega
  subst hw
  show (0 : Int) = if 0 ≤ v ∧ v ≤ 20 then 1 else 0
  rw [if_neg (by omega)]
theorem hl_167 {w v : Int}  (q0 : w ≤ 4) (q1 : 4 ≤ w) (q2 : 0 ≤ v) (q3 : v ≤ 50) : rf_XP xt 40 [] [26, w, v, 1] := by
  have hw : w = 4 := by omega
  subst hw
  show (1 : Int) = if 0 ≤ v ∧ v ≤ 50 then 1 else 0
  rw [if_pos (by omega)]
theorem hl_168 {w v : Int}  (q0 : w ≤ 4) (q1 : 4 ≤ w) (q2 : 51 ≤ v) : rf_XP xt 40 [] [26, w, v, 0] := by
  have hw : w = 4 := by omega
  subst hw
  show (0 : Int) = if 0 ≤ v ∧ v ≤ 50 then 1 else 0
  rw [if_neg (by omega)]
theorem hl_169 {w v : Int}  (q0 : w ≤ 5) (q1 : 5 ≤ w) (q2 : 0 ≤ v) (q3 : v ≤ 3) : rf_XP xt 40 [] [26, w, v, 1] := by
  have hw : w = 5 := by omega
  subst hw
  show (1 : Int) = if 0 ≤ v ∧ v ≤ 3 then 1 else 0
  rw [if_pos (by omega)]
theorem hl_170 {w v : Int}  (q0 : w ≤ 5) (q1 : 5 ≤ w) (q2 : 4 ≤ v) : rf_XP xt 40 [] [26, w, v, 0] := by
  have hw : w = 5 := by omega
  subst hw
  show (0 : Int) = if 0 ≤ v ∧ v ≤ 3 then 1 else 0
  rw [if_neg (by omega)]
theorem hl_171 {w v : Int}  (q0 : w ≤ 6) (q1 : 6 ≤ w) (q2 : 0 ≤ v) (q3 : v ≤ 50) : rf_XP xt 40 [] [26, w, v, 1] := by
  have hw : w = 6 := by omega
  subst hw
  show (1 : Int) = if 0 ≤ v ∧ v ≤ 50 then 1 else 0
  rw [if_pos (by omega)]
theorem hl_172 {w v : Int}  (q0 : w ≤ 6) (q1 : 6 ≤ w) (q2 : 51 ≤ v) : rf_XP xt 40 [] [26, w, v, 0] := by
  have hw : w = 6 := by omega
  subst hw
  show (0 : Int) = if 0 ≤ v ∧ v ≤ 50 then 1 else 0
  rw [if_neg (by omega)]
theorem hl_173 {w v : Int}  (q0 : w ≤ 7) (q1 : 7 ≤ w) (q2 : 0 ≤ v) (q3 : v ≤ 999) : rf_XP xt 40 [] [26, w, v, 1] := by
  have hw : w = 7 := by omega
  subst hw
  show (1 : Int) = if 0 ≤ v ∧ v ≤ 999 then 1 else 0
  rw [if_pos (by omega)]
theorem hl_174 {w v : Int}  (q0 : w ≤ 7) (q1 : 7 ≤ w) (q2 : 1000 ≤ v) : rf_XP xt 40 [] [26, w, v, 0] := by
  have hw : w = 7 := by omega
  subst hw
  show (0 : Int) = if 0 ≤ v ∧ v ≤ 999 then 1 else 0
  rw [if_neg (by omega)]
theorem hl_175 {w v : Int}  (q0 : w ≤ 8) (q1 : 8 ≤ w) (q2 : 0 ≤ v) (q3 : v ≤ 12) : rf_XP xt 40 [] [26, w, v, 1] := by
  have hw : w = 8 := by omega
  subst hw
  show (1 : Int) = if 0 ≤ v ∧ v ≤ 12 then 1 else 0
  rw [if_pos (by omega)]
theorem hl_176 {w v : Int}  (q0 : w ≤ 8) (q1 : 8 ≤ w) (q2 : 13 ≤ v) : rf_XP xt 40 [] [26, w, v, 0] := by
  have hw : w = 8 := by omega
  subst hw
  show (0 : Int) = if 0 ≤ v ∧ v ≤ 12 then 1 else 0
  rw [if_neg (by omega)]
theorem hl_177 {w v : Int}  (q0 : v ≤ -1) : rf_XP xt 40 [] [26, w, v, 0] := by
  show (0 : Int) = if 0 ≤ v ∧ v ≤ rf_tops w then 1 else 0
  rw [if_neg (by omega)]
theorem hl_178 {n w gs : Int}  (q0 : 0 ≤ w) (q1 : w ≤ 1) (q2 : 0 ≤ n) (q3 : n ≤ 3) : rf_XP xt 40 [] [20, n, w, gs, 1] := by
  show (1 : Int) = if 0 ≤ rf_ix n w gs then 1 else 0
  have hc : 0 ≤ n ∧ n ≤ 3 := by omega
  rw [rf_ix01 (by omega), if_pos hc, if_pos hc.1]
theorem hl_179 {n w gs : Int}  (q0 : 4 ≤ w) (q1 : w ≤ 5) (q2 : 0 ≤ n) (q3 : n + 1 ≤ gs) : rf_XP xt 40 [] [20, n, w, gs, 1] := by
  show (1 : Int) = if 0 ≤ rf_ix n w gs then 1 else 0
  have hc : 0 ≤ n ∧ n < gs := by omega
  rw [rf_ix45 (by omega), if_pos hc, if_pos hc.1]
theorem hl_180 {n w gs : Int}  (q0 : 0 ≤ w) (q1 : w ≤ 1) (q2 : n ≤ -1) : rf_XP xt 40 [] [20, n, w, gs, 0] := by
  show (0 : Int) = if 0 ≤ rf_ix n w gs then 1 else 0
  rw [rf_ix01 (by omega), if_neg (show ¬ (0 ≤ n ∧ n ≤ 3) by omega), if_neg (by omega)]
theorem hl_181 {n w gs : Int}  (q0 : 0 ≤ w) (q1 : w ≤ 1) (q2 : 4 ≤ n) : rf_XP xt 40 [] [20, n, w, gs, 0] := by
  show (0 : Int) = if 0 ≤ rf_ix n w gs then 1 else 0
  rw [rf_ix01 (by omega), if_neg (show ¬ (0 ≤ n ∧ n ≤ 3) by omega), if_neg (by omega)]
theorem hl_182 {n w gs : Int}  (q0 : 4 ≤ w) (q1 : w ≤ 5) (q2 : n ≤ -1) : rf_XP xt 40 [] [20, n, w, gs, 0] := by
  show (0 : Int) = if 0 ≤ rf_ix n w gs then 1 else 0
  rw [rf_ix45 (by omega), if_neg (show ¬ (0 ≤ n ∧ n < gs) by omega), if_neg (by omega)]
theorem hl_183 {n w gs : Int}  (q0 : 4 ≤ w) (q1 : w ≤ 5) (q2 : gs ≤ n) : rf_XP xt 40 [] [20, n, w, gs, 0] := by
  show (0 : Int) = if 0 ≤ rf_ix n w gs then 1 else 0
  rw [rf_ix45 (by omega), if_neg (show ¬ (0 ≤ n ∧ n < gs) by omega), if_neg (by omega)]
theorem hl_184 {n w gs : Int}  (q0 : 6 ≤ w) (q1 : w ≤ 8) (q2 : n ≤ -1) : rf_XP xt 40 [] [20, n, w, gs, 0] := by
  show (0 : Int) = if 0 ≤ rf_ix n w gs then 1 else 0
  rw [rf_ix68 (by omega), if_neg (show ¬ (n = 0) by omega), if_neg (by omega)]
theorem hl_185 {n w gs : Int}  (q0 : 6 ≤ w) (q1 : w ≤ 8) (q2 : 1 ≤ n) : rf_XP xt 40 [] [20, n, w, gs, 0] := by
  show (0 : Int) = if 0 ≤ rf_ix n w gs then 1 else 0
  rw [rf_ix68 (by omega), if_neg (show ¬ (n = 0) by omega), if_neg (by omega)]
theorem hl_186 {n w gs : Int}  (q0 : 6 ≤ w) (q1 : w ≤ 8) (q2 : n ≤ 0) (q3 : 0 ≤ n) : rf_XP xt 40 [] [20, n, w, gs, 1] := by
  show (1 : Int) = if 0 ≤ rf_ix n w gs then 1 else 0
  rw [rf_ix68 (by omega), if_pos (show n = 0 by omega), if_pos (by omega)]
theorem hl_187 {n w gs : Int}  (q0 : w ≤ -1) : rf_XP xt 40 [] [20, n, w, gs, 0] := by
  show (0 : Int) = if 0 ≤ rf_ix n w gs then 1 else 0
  rw [rf_ixn (by omega), if_neg (by omega)]
theorem hl_188 {n w gs : Int}  (q0 : 9 ≤ w) : rf_XP xt 40 [] [20, n, w, gs, 0] := by
  show (0 : Int) = if 0 ≤ rf_ix n w gs then 1 else 0
  rw [rf_ixn (by omega), if_neg (by omega)]
theorem hl_189 {n w gs r : Int} (p0 : rf_XP xt 40 [] [31, n, gs, r]) (q0 : 2 ≤ w) (q1 : w ≤ 3) : rf_XP xt 40 [] [20, n, w, gs, r] := by
  show r = if 0 ≤ rf_ix n w gs then 1 else 0
  rw [rf_ix23 (by omega)]
  exact p0
theorem hl_190 {r w n O W K B S E u p h : Int} (p0 : rf_XP xt 36 [] [n, r, O]) (q0 : w ≤ 0) (q1 : 0 ≤ w) : rf_XP xt 40 [] [23, r, w, n, O, W, K, B, S, E, u, p, h] := by
  have hw : w = 0 := by omega
  subst hw
  show r = rf_dc n.toNat O
  exact p0.2
theorem hl_191 {r w n O W K B S E u p h : Int} (p0 : rf_XP xt 36 [] [n, r, W]) (q0 : w ≤ 1) (q1 : 1 ≤ w) : rf_XP xt 40 [] [23, r, w, n, O, W, K, B, S, E, u, p, h] := by
  have hw : w = 1 := by omega
  subst hw
  show r = rf_dc n.toNat W
  exact p0.2
theorem hl_192 {r x w n O W K B S E u p h : Int} (p0 : rf_XP xt 40 [] [32, n, x]) (p1 : rf_XP xt 36 [] [x, r, K]) (q0 : w ≤ 2) (q1 : 2 ≤ w) : rf_XP xt 40 [] [23, r, w, n, O, W, K, B, S, E, u, p, h] := by
  have hw : w = 2 := by omega
  subst hw
  have e : 0 ≤ n ∧ x = 4 * (n / 10) + n % 10 := p0
  have a : r = rf_dc x.toNat K := p1.2
  show r = rf_dc (4 * (n / 10) + n % 10).toNat K
  rw [a, e.2]
theorem hl_193 {r x w n O W K B S E u p h : Int} (p0 : rf_XP xt 40 [] [32, n, x]) (p1 : rf_XP xt 36 [] [x, r, B]) (q0 : w ≤ 3) (q1 : 3 ≤ w) : rf_XP xt 40 [] [23, r, w, n, O, W, K, B, S, E, u, p, h] := by
  have hw : w = 3 := by omega
  subst hw
  have e : 0 ≤ n ∧ x = 4 * (n / 10) + n % 10 := p0
  have a : r = rf_dc x.toNat B := p1.2
  show r = rf_dc (4 * (n / 10) + n % 10).toNat B
  rw [a, e.2]
theorem hl_194 {r w n O W K B S E u p h : Int} (p0 : rf_XP xt 36 [] [n, r, S]) (q0 : w ≤ 4) (q1 : 4 ≤ w) : rf_XP xt 40 [] [23, r, w, n, O, W, K, B, S, E, u, p, h] := by
  have hw : w = 4 := by omega
  subst hw
  show r = rf_dc n.toNat S
  exact p0.2
theorem hl_195 {r w n O W K B S E u p h : Int} (p0 : rf_XP xt 36 [] [n, r, E]) (q0 : w ≤ 5) (q1 : 5 ≤ w) : rf_XP xt 40 [] [23, r, w, n, O, W, K, B, S, E, u, p, h] := by
  have hw : w = 5 := by omega
  subst hw
  show r = rf_dc n.toNat E
  exact p0.2
theorem hl_196 {w n O W K B S E u p h : Int}  (q0 : w ≤ 6) (q1 : 6 ≤ w) : rf_XP xt 40 [] [23, u, w, n, O, W, K, B, S, E, u, p, h] := by
  have hw : w = 6 := by omega
  subst hw
  show u = u
  rfl
theorem hl_197 {w n O W K B S E u p h : Int}  (q0 : w ≤ 7) (q1 : 7 ≤ w) : rf_XP xt 40 [] [23, p, w, n, O, W, K, B, S, E, u, p, h] := by
  have hw : w = 7 := by omega
  subst hw
  show p = p
  rfl
theorem hl_198 {w n O W K B S E u p h : Int}  (q0 : w ≤ 8) (q1 : 8 ≤ w) : rf_XP xt 40 [] [23, h, w, n, O, W, K, B, S, E, u, p, h] := by
  have hw : w = 8 := by omega
  subst hw
  show h = h
  rfl
theorem hl_199 {Z v w n O W K B S E u p h : Int} (p0 : rf_XP xt 31 [] [Z, O, n, v]) (q0 : w ≤ 0) (q1 : 0 ≤ w) : rf_XP xt 40 [] [33, w, n, v, Z, W, K, B, S, E, u, p, h, O, W, K, B, S, E, u, p, h] := by
  have hw : w = 0 := by omega
  subst hw
  have a : Z = rf_up n.toNat v O := p0.2
  exact ⟨a, rfl, rfl, rfl, rfl, rfl, rfl, rfl, rfl⟩
theorem hl_200 {Z v w n O W K B S E u p h : Int} (p0 : rf_XP xt 31 [] [Z, W, n, v]) (q0 : w ≤ 1) (q1 : 1 ≤ w) : rf_XP xt 40 [] [33, w, n, v, O, Z, K, B, S, E, u, p, h, O, W, K, B, S, E, u, p, h] := by
  have hw : w = 1 := by omega
  subst hw
  have a : Z = rf_up n.toNat v W := p0.2
  exact ⟨rfl, a, rfl, rfl, rfl, rfl, rfl, rfl, rfl⟩
theorem hl_201 {Z x v w n O W K B S E u p h : Int} (p0 : rf_XP xt 40 [] [32, n, x]) (p1 : rf_XP xt 31 [] [Z, K, x, v]) (q0 : w ≤ 2) (q1 : 2 ≤ w) : rf_XP xt 40 [] [33, w, n, v, O, W, Z, B, S, E, u, p, h, O, W, K, B, S, E, u, p, h] := by
  have hw : w = 2 := by omega
  subst hw
  have e : 0 ≤ n ∧ x = 4 * (n / 10) + n % 10 := p0
  have a0 : Z = rf_up x.toNat v K := p1.2
  have a : Z = rf_up (4 * (n / 10) + n % 10).toNat v K := by rw [a0, e.2]
  exact ⟨rfl, rfl, a, rfl, rfl, rfl, rfl, rfl, rfl⟩
theorem hl_202 {Z x v w n O W K B S E u p h : Int} (p0 : rf_XP xt 40 [] [32, n, x]) (p1 : rf_XP xt 31 [] [Z, B, x, v]) (q0 : w ≤ 3) (q1 : 3 ≤ w) : rf_XP xt 40 [] [33, w, n, v, O, W, K, Z, S, E, u, p, h, O, W, K, B, S, E, u, p, h] := by
  have hw : w = 3 := by omega
  subst hw
  have e : 0 ≤ n ∧ x = 4 * (n / 10) + n % 10 := p0
  have a0 : Z = rf_up x.toNat v B := p1.2
  have a : Z = rf_up (4 * (n / 10) + n % 10).toNat v B := by rw [a0, e.2]
  exact ⟨rfl, rfl, rfl, a, rfl, rfl, rfl, rfl, rfl⟩
theorem hl_203 {Z v w n O W K B S E u p h : Int} (p0 : rf_XP xt 31 [] [Z, S, n, v]) (q0 : w ≤ 4) (q1 : 4 ≤ w) : rf_XP xt 40 [] [33, w, n, v, O, W, K, B, Z, E, u, p, h, O, W, K, B, S, E, u, p, h] := by
  have hw : w = 4 := by omega
  subst hw
  have a : Z = rf_up n.toNat v S := p0.2
  exact ⟨rfl, rfl, rfl, rfl, a, rfl, rfl, rfl, rfl⟩
theorem hl_204 {Z v w n O W K B S E u p h : Int} (p0 : rf_XP xt 31 [] [Z, E, n, v]) (q0 : w ≤ 5) (q1 : 5 ≤ w) : rf_XP xt 40 [] [33, w, n, v, O, W, K, B, S, Z, u, p, h, O, W, K, B, S, E, u, p, h] := by
  have hw : w = 5 := by omega
  subst hw
  have a : Z = rf_up n.toNat v E := p0.2
  exact ⟨rfl, rfl, rfl, rfl, rfl, a, rfl, rfl, rfl⟩
theorem hl_205 {v w n O W K B S E u p h : Int}  (q0 : w ≤ 6) (q1 : 6 ≤ w) : rf_XP xt 40 [] [33, w, n, v, O, W, K, B, S, E, v, p, h, O, W, K, B, S, E, u, p, h] := by
  have hw : w = 6 := by omega
  subst hw
  exact ⟨rfl, rfl, rfl, rfl, rfl, rfl, rfl, rfl, rfl⟩
theorem hl_206 {v w n O W K B S E u p h : Int}  (q0 : w ≤ 7) (q1 : 7 ≤ w) : rf_XP xt 40 [] [33, w, n, v, O, W, K, B, S, E, u, v, h, O, W, K, B, S, E, u, p, h] := by
  have hw : w = 7 := by omega
  subst hw
  exact ⟨rfl, rfl, rfl, rfl, rfl, rfl, rfl, rfl, rfl⟩
theorem hl_207 {v w n O W K B S E u p h : Int}  (q0 : w ≤ 8) (q1 : 8 ≤ w) : rf_XP xt 40 [] [33, w, n, v, O, W, K, B, S, E, u, p, v, O, W, K, B, S, E, u, p, h] := by
  have hw : w = 8 := by omega
  subst hw
  exact ⟨rfl, rfl, rfl, rfl, rfl, rfl, rfl, rfl, rfl⟩
theorem hl_208 {g : Int}   : rf_XP xt 40 [] [6, g, g, g, 0, 1, 0] := by
  show ∀ j : Nat, j ≤ 374 → rf_dc j g = if (0 : Int) ≤ (j : Int) ∧ (j : Int) < (0 : Int) + (0 : Int) then rf_dc ((1 : Int) + ((j : Int) - (0 : Int))).toNat g else rf_dc j g
  intro j hj
  rw [if_neg (by omega)]
theorem hl_209 {f g e k r G : Int} (p0 : rf_XP xt 40 [] [6, f, g, g, 0, 1, e]) (p1 : rf_XP xt 36 [] [k, r, f]) (p2 : rf_XP xt 31 [] [G, f, e, r]) (q0 : k ≤ e + 1) (q1 : e + 1 ≤ k) (q2 : 0 ≤ e) (q3 : e ≤ 300) : rf_XP xt 40 [] [6, G, g, g, 0, 1, e + 1] := by
  have a : ∀ j : Nat, j ≤ 374 → rf_dc j f = if (0 : Int) ≤ (j : Int) ∧ (j : Int) < (0 : Int) + e then rf_dc ((1 : Int) + ((j : Int) - (0 : Int))).toNat g else rf_dc j g := p0
  have b : r = rf_dc k.toNat f := p1.2
  have c : G = rf_up e.toNat r f := p2.2
  have hk : k.toNat = e.toNat + 1 := by omega
  have hr : r = rf_dc (e.toNat + 1) g := by
    rw [b, hk, a (e.toNat + 1) (by omega), if_neg (by omega)]
  have hv := rf_dc_rng (e.toNat + 1) g
  rw [← hr] at hv
  show ∀ j : Nat, j ≤ 374 → rf_dc j G = if (0 : Int) ≤ (j : Int) ∧ (j : Int) < (0 : Int) + (e + 1) then rf_dc ((1 : Int) + ((j : Int) - (0 : Int))).toNat g else rf_dc j g
  intro j hj
  rw [c, rf_dc_up hv.1 hv.2]
  by_cases h1 : j = e.toNat
  · rw [if_pos h1, if_pos (by omega), hr]
    congr 1
    omega
  · rw [if_neg h1, a j hj]
    by_cases h2 : (0 : Int) ≤ (j : Int) ∧ (j : Int) < 0 + e
    · rw [if_pos h2, if_pos (by omega)]
    · rw [if_neg h2, if_neg (by omega)]
theorem hl_210 {g h G H d s n e t m : Int} (p0 : rf_XP xt 40 [] [6, g, G, H, d, s, n]) (p1 : rf_XP xt 40 [] [6, h, G, H, e, t, m]) (q0 : d ≤ e) (q1 : e ≤ d) (q2 : s ≤ t) (q3 : t ≤ s) (q4 : n ≤ m) (q5 : m ≤ n) (q6 : 0 ≤ g) (q7 : g ≤ rf_BIG) (q8 : 0 ≤ h) (q9 : h ≤ rf_BIG) : g ≤ h ∧ h ≤ g := by
  have a : ∀ j : Nat, j ≤ 374 → rf_dc j g = if d ≤ (j : Int) ∧ (j : Int) < d + n then rf_dc (s + ((j : Int) - d)).toNat H else rf_dc j G := p0
  have b : ∀ j : Nat, j ≤ 374 → rf_dc j h = if e ≤ (j : Int) ∧ (j : Int) < e + m then rf_dc (t + ((j : Int) - e)).toNat H else rf_dc j G := p1
  have h1 : d = e := by omega
  have h2 : s = t := by omega
  have h3 : n = m := by omega
  subst h1
  subst h2
  subst h3
  have e9 : g = h := rf_dc_inj (by omega) (by rw [← rf_BIGe]; omega) (by omega) (by rw [← rf_BIGe]; omega) (fun j hj => by rw [a j (by omega), b j (by omega)])
  omega
theorem hl_211 {P C A n gs Q D F x y z e : Int} (p0 : rf_XP xt 40 [] [29, P, C, A, n, gs]) (p1 : rf_XP xt 40 [] [6, Q, P, P, 0, 1, x]) (p2 : rf_XP xt 40 [] [6, D, C, C, 0, 1, y]) (p3 : rf_XP xt 40 [] [6, F, A, A, 0, 1, z]) (q0 : 39 ≤ x) (q1 : 39 ≤ y) (q2 : 39 ≤ z) (q3 : 40 ≤ e) (q4 : e ≤ n) : rf_XP xt 40 [] [29, Q, D, F, 39, gs] := by
  have a : ∀ j : Nat, (j : Int) < n → 0 ≤ rf_dc j P ∧ rf_dc j P = rf_pl (rf_dc j A) (rf_dc j C) gs := p0
  have b : ∀ j : Nat, j ≤ 374 → rf_dc j Q = if (0 : Int) ≤ (j : Int) ∧ (j : Int) < (0 : Int) + x then rf_dc ((1 : Int) + ((j : Int) - (0 : Int))).toNat P else rf_dc j P := p1
  have c : ∀ j : Nat, j ≤ 374 → rf_dc j D = if (0 : Int) ≤ (j : Int) ∧ (j : Int) < (0 : Int) + y then rf_dc ((1 : Int) + ((j : Int) - (0 : Int))).toNat C else rf_dc j C := p2
  have d : ∀ j : Nat, j ≤ 374 → rf_dc j F = if (0 : Int) ≤ (j : Int) ∧ (j : Int) < (0 : Int) + z then rf_dc ((1 : Int) + ((j : Int) - (0 : Int))).toNat A else rf_dc j A := p3
  show ∀ j : Nat, (j : Int) < 39 → 0 ≤ rf_dc j Q ∧ rf_dc j Q = rf_pl (rf_dc j F) (rf_dc j D) gs
  intro j hj
  rw [b j (by omega), c j (by omega), d j (by omega), if_pos (by omega), if_pos (by omega), if_pos (by omega)]
  exact a _ (by omega)
theorem hl_212 {P C A m gs Q D F d q w n : Int} (p0 : rf_XP xt 40 [] [29, P, C, A, m, gs]) (p1 : rf_XP xt 31 [] [Q, P, d, q]) (p2 : rf_XP xt 31 [] [D, C, d, w]) (p3 : rf_XP xt 31 [] [F, A, d, n]) (p4 : rf_XP xt 40 [] [19, n, w, gs, q]) (q0 : d ≤ m) (q1 : 0 ≤ q) (q2 : -9223372036854775808 ≤ q) (q3 : q ≤ 9223372036854775807) (q4 : -9223372036854775808 ≤ w) (q5 : w ≤ 9223372036854775807) (q6 : -9223372036854775808 ≤ n) (q7 : n ≤ 9223372036854775807) : rf_XP xt 40 [] [29, Q, D, F, d + 1, gs] := by
  have a : ∀ j : Nat, (j : Int) < m → 0 ≤ rf_dc j P ∧ rf_dc j P = rf_pl (rf_dc j A) (rf_dc j C) gs := p0
  obtain ⟨d0, b⟩ : 0 ≤ d ∧ Q = rf_up d.toNat q P := p1
  have c : D = rf_up d.toNat w C := p2.2
  have e : F = rf_up d.toNat n A := p3.2
  have f : q = rf_pl n w gs := p4
  show ∀ j : Nat, (j : Int) < d + 1 → 0 ≤ rf_dc j Q ∧ rf_dc j Q = rf_pl (rf_dc j F) (rf_dc j D) gs
  intro j hj
  rw [b, c, e, rf_dc_up q2 q3, rf_dc_up q4 q5, rf_dc_up q6 q7]
  by_cases h1 : j = d.toNat
  · rw [if_pos h1, if_pos h1, if_pos h1]
    exact ⟨q1, f⟩
  · rw [if_neg h1, if_neg h1, if_neg h1]
    exact a j (by omega)
theorem hl_213 {P C A n g k : Int} (p0 : rf_XP xt 40 [] [29, P, C, A, n, g]) (q0 : g ≤ k) : rf_XP xt 40 [] [29, P, C, A, n, k] := by
  have a : ∀ j : Nat, (j : Int) < n → 0 ≤ rf_dc j P ∧ rf_dc j P = rf_pl (rf_dc j A) (rf_dc j C) g := p0
  show ∀ j : Nat, (j : Int) < n → 0 ≤ rf_dc j P ∧ rf_dc j P = rf_pl (rf_dc j A) (rf_dc j C) k
  intro j hj
  obtain ⟨a1, a2⟩ := a j hj
  exact ⟨a1, by rw [a2]; exact (rf_pl_mono q0 (by omega)).symm⟩
theorem hl_214 {P C A m n gs : Int} (p0 : rf_XP xt 40 [] [29, P, C, A, m, gs]) (q0 : n ≤ m) : rf_XP xt 40 [] [29, P, C, A, n, gs] := by
  have a : ∀ j : Nat, (j : Int) < m → 0 ≤ rf_dc j P ∧ rf_dc j P = rf_pl (rf_dc j A) (rf_dc j C) gs := p0
  show ∀ j : Nat, (j : Int) < n → 0 ≤ rf_dc j P ∧ rf_dc j P = rf_pl (rf_dc j A) (rf_dc j C) gs
  exact fun j hj => a j (by omega)
theorem hl_215 {P C A n gs : Int}  (q0 : n ≤ 0) : rf_XP xt 40 [] [29, P, C, A, n, gs] := by
  show ∀ j : Nat, (j : Int) < n → 0 ≤ rf_dc j P ∧ rf_dc j P = rf_pl (rf_dc j A) (rf_dc j C) gs
  exact fun j hj => absurd hj (by omega)
theorem hl_216 {P C A m gs d q w n : Int} (p0 : rf_XP xt 40 [] [29, P, C, A, m, gs]) (p1 : rf_XP xt 36 [] [d, q, P]) (p2 : rf_XP xt 36 [] [d, w, C]) (p3 : rf_XP xt 36 [] [d, n, A]) (q0 : 0 ≤ d) (q1 : d + 1 ≤ m) : rf_XP xt 40 [] [19, n, w, gs, q] ∧ 0 ≤ q := by
  have a : ∀ j : Nat, (j : Int) < m → 0 ≤ rf_dc j P ∧ rf_dc j P = rf_pl (rf_dc j A) (rf_dc j C) gs := p0
  have b : q = rf_dc d.toNat P := p1.2
  have c : w = rf_dc d.toNat C := p2.2
  have e : n = rf_dc d.toNat A := p3.2
  obtain ⟨a1, a2⟩ := a d.toNat (by omega)
  rw [← b, ← c, ← e] at a2
  rw [← b] at a1
  exact ⟨a2, a1⟩
theorem hl_217 {T O W K B S E u p h gs n w q r x : Int} (p0 : rf_XP xt 40 [] [14, T, O, W, K, B, S, E, u, p, h, gs]) (p1 : rf_XP xt 40 [] [19, n, w, gs, q]) (p2 : rf_XP xt 36 [] [q, r, T]) (p3 : rf_XP xt 40 [] [23, x, w, n, O, W, K, B, S, E, u, p, h]) (q0 : 0 ≤ q) (q1 : gs ≤ 7) : r ≤ x ∧ x ≤ r := by
  have a : rf_hs T O W K B S E u p h gs := p0
  have b : q = rf_pl n w gs := p1
  have c : r = rf_dc q.toNat T := p2.2
  have d : x = rf_va w n O W K B S E u p h := p3
  have e9 : r = x := by
    rw [c, d, b]
    exact rf_hs_va a (by omega) (by omega)
  omega
theorem hl_218 {n w gs q k r : Int} (p0 : rf_XP xt 40 [] [19, n, w, gs, q]) (p1 : rf_XP xt 40 [] [20, n, w, k, r]) (q0 : gs ≤ k) (q1 : k ≤ gs) (q2 : q ≤ -1) (q3 : 1 ≤ r) : False := by
  have ek : k = gs := by omega
  subst ek
  have a : q = rf_pl n w k := p0
  have b : r = if 0 ≤ rf_ix n w k then 1 else 0 := p1
  have hf := rf_fst_ge w
  unfold rf_pl at a
  by_cases hi : 0 ≤ rf_ix n w k
  · rw [if_pos hi] at a
    omega
  · rw [if_neg hi] at b
    omega
theorem hl_219 {n w gs q k r : Int} (p0 : rf_XP xt 40 [] [19, n, w, gs, q]) (p1 : rf_XP xt 40 [] [20, n, w, k, r]) (q0 : gs ≤ k) (q1 : k ≤ gs) (q2 : 0 ≤ q) (q3 : r ≤ 0) : False := by
  have ek : k = gs := by omega
  subst ek
  have a : q = rf_pl n w k := p0
  have b : r = if 0 ≤ rf_ix n w k then 1 else 0 := p1
  unfold rf_pl at a
  by_cases hi : 0 ≤ rf_ix n w k
  · rw [if_pos hi] at b
    omega
  · rw [if_neg hi] at a
    omega
theorem hl_220 {w v r q : Int} (p0 : rf_XP xt 40 [] [26, w, v, r]) (p1 : rf_XP xt 40 [] [26, w, v, q])  : r ≤ q ∧ q ≤ r := by
  have a : r = if 0 ≤ v ∧ v ≤ rf_tops w then 1 else 0 := p0
  have b : q = if 0 ≤ v ∧ v ≤ rf_tops w then 1 else 0 := p1
  have e9 : r = q := by rw [a, b]
  omega
theorem hl_221 {T O W K B S E u p h gs n w q v T1 x O1 W1 K1 B1 S1 E1 u1 pp h1 : Int} (p0 : rf_XP xt 40 [] [14, T, O, W, K, B, S, E, u, p, h, gs]) (p1 : rf_XP xt 40 [] [19, n, w, gs, q]) (p2 : rf_XP xt 31 [] [T1, T, q, x]) (p3 : rf_XP xt 40 [] [33, w, n, v, O1, W1, K1, B1, S1, E1, u1, pp, h1, O, W, K, B, S, E, u, p, h]) (q0 : 0 ≤ q) (q1 : gs ≤ 7) (q2 : -9223372036854775808 ≤ v) (q3 : v ≤ 9223372036854775807) (q4 : x ≤ v) (q5 : v ≤ x) : rf_XP xt 40 [] [14, T1, O1, W1, K1, B1, S1, E1, u1, pp, h1, gs] := by
  have a : rf_hs T O W K B S E u p h gs := p0
  have b : q = rf_pl n w gs := p1
  have c0 : T1 = rf_up q.toNat x T := p2.2
  have c : T1 = rf_up q.toNat v T := by rw [c0, show x = v by omega]
  obtain ⟨d1, d2, d3, d4, d5, d6, d7, d8, d9⟩ : O1 = rf_ly 0 w n v O ∧ W1 = rf_ly 1 w n v W ∧ K1 = rf_ly 2 w n v K ∧ B1 = rf_ly 3 w n v B ∧ S1 = rf_ly 4 w n v S ∧ E1 = rf_ly 5 w n v E ∧ u1 = rf_ly 6 w n v u ∧ pp = rf_ly 7 w n v p ∧ h1 = rf_ly 8 w n v h := p3
  show rf_hs T1 O1 W1 K1 B1 S1 E1 u1 pp h1 gs
  rw [c, b, d1, d2, d3, d4, d5, d6, d7, d8, d9]
  exact rf_hs_ly a (by omega) (by omega) q2 q3
theorem hl_222 {T O W K B S E u p h gs T1 K1 B1 S1 E1 a b c k : Int} (p0 : rf_XP xt 40 [] [14, T, O, W, K, B, S, E, u, p, h, gs]) (p1 : rf_XP xt 40 [] [15, T1, T, gs, a, b, c]) (p2 : rf_XP xt 40 [] [16, K1, B1, S1, E1, K, B, S, E, k, a, b, c]) (q0 : gs ≤ k) (q1 : k ≤ gs) (q2 : 0 ≤ gs) (q3 : gs ≤ 6) : rf_XP xt 40 [] [14, T1, O, W, K1, B1, S1, E1, u, p, h, gs + 1] := by
  have h0 : rf_hs T O W K B S E u p h gs := p0
  have h1 : ∀ j : Nat, j ≤ 80 → rf_dc j T1 = if 8 + 4 * gs ≤ (j : Int) ∧ (j : Int) < 12 + 4 * gs then a else if (j : Int) = 64 + gs then b else if (j : Int) = 71 + gs then c else rf_dc j T := p1
  have h2 : (∀ j : Nat, j < 28 → rf_dc j K1 = (if 4 * k ≤ (j : Int) ∧ (j : Int) < 4 * k + 4 then a else rf_dc j K) ∧ rf_dc j B1 = (if 4 * k ≤ (j : Int) ∧ (j : Int) < 4 * k + 4 then 0 else rf_dc j B)) ∧ ∀ j : Nat, j < 7 → rf_dc j S1 = (if (j : Int) = k then b else rf_dc j S) ∧ rf_dc j E1 = (if (j : Int) = k then c else rf_dc j E) := p2
  rw [show k = gs by omega] at h2
  show rf_hs T1 O W K1 B1 S1 E1 u p h (gs + 1)
  obtain ⟨a1, a2, a3, a4, a5, a6⟩ := h0
  refine ⟨fun j hj => ?_, fun j hj => ?_, fun j hj hg => ?_, ?_, ?_, ?_⟩
  · rw [h1 j (by omega), h1 (4 + j) (by omega), if_neg (by omega), if_neg (by omega), if_neg (by omega), if_neg (by omega), if_neg (by omega), if_neg (by omega)]
    exact a1 j hj
  · obtain ⟨c1, c2⟩ := h2.1 j hj
    have b1 := h1 (8 + j) (by omega)
    have b2 := h1 (36 + j) (by omega)
    rw [if_neg (by omega), if_neg (by omega), if_neg (by omega)] at b2
    refine ⟨fun hg => ?_, fun hg => ?_⟩
    · by_cases hx : 4 * gs ≤ (j : Int)
      · rw [if_pos (by omega)] at b1 c1 c2
        exact ⟨b1.trans c1.symm, by rw [b2, c2]; exact (a2 j hj).2 hx⟩
      · rw [if_neg (by omega), if_neg (by omega), if_neg (by omega)] at b1
        rw [if_neg (by omega)] at c1 c2
        rw [b1, b2, c1, c2]
        exact (a2 j hj).1 (by omega)
    · rw [b2]
      exact (a2 j hj).2 (by omega)
  · obtain ⟨c1, c2⟩ := h2.2 j hj
    have b1 := h1 (64 + j) (by omega)
    have b2 := h1 (71 + j) (by omega)
    rw [if_neg (by omega)] at b1 b2
    rw [if_neg (show ¬ (((71 + j : Nat) : Int) = 64 + gs) by omega)] at b2
    by_cases hx : (j : Int) = gs
    · rw [if_pos (by omega)] at b1 b2 c1 c2
      exact ⟨b1.trans c1.symm, b2.trans c2.symm⟩
    · rw [if_neg (by omega), if_neg (by omega)] at b1
      rw [if_neg (by omega)] at b2 c1 c2
      rw [b1, b2, c1, c2]
      exact a3 j hj (by omega)
  · rw [h1 78 (by omega), if_neg (by omega), if_neg (by omega), if_neg (by omega)]
    exact a4
  · rw [h1 79 (by omega), if_neg (by omega), if_neg (by omega), if_neg (by omega)]
    exact a5
  · rw [h1 80 (by omega), if_neg (by omega), if_neg (by omega), if_neg (by omega)]
    exact a6
theorem hl_223 {a b c T gs : Int} (p0 : rf_XP xt 30 [o] [71, c, 64, b, 11, a, 10, a, 9, a, 8, a, T]) (q0 : gs ≤ 0) (q1 : 0 ≤ gs) (q2 : 0 ≤ T) (q3 : T ≤ rf_BIG) (q4 : -9223372036854775808 ≤ a) (q5 : a ≤ 9223372036854775807) (q6 : -9223372036854775808 ≤ b) (q7 : b ≤ 9223372036854775807) (q8 : -9223372036854775808 ≤ c) (q9 : c ≤ 9223372036854775807) : ∃ y1 : Int, (0 ≤ y1 ∧ y1 ≤ rf_BIG) ∧ rf_XP xt 30 [o] [y1] ∧ rf_XP xt 40 [] [15, y1, T, gs, a, b, c] := by
  have hg : gs = 0 := by omega
  subst hg
  obtain ⟨e, rfl⟩ := hc_some p0
  refine ⟨rf_chn [71, c, 64, b, 11, a, 10, a, 9, a, 8, a, T], (hl_upb (hl_upb (hl_upb (hl_upb (hl_upb (hl_upb ⟨q2, q3⟩ (i := 8) (by omega) (by omega)) (i := 9) (by omega) (by omega)) (i := 10) (by omega) (by omega)) (i := 11) (by omega) (by omega)) (i := 64) (by omega) (by omega)) (i := 71) (by omega) (by omega)), p0, ?_⟩
  show ∀ j : Nat, j ≤ 80 → rf_dc j (rf_chn [71, c, 64, b, 11, a, 10, a, 9, a, 8, a, T]) = if 8 + 4 * 0 ≤ (j : Int) ∧ (j : Int) < 12 + 4 * 0 then a else if (j : Int) = 64 + 0 then b else if (j : Int) = 71 + 0 then c else rf_dc j T
  intro j hj
  show rf_dc j (rf_up 71 c (rf_up 64 b (rf_up 11 a (rf_up 10 a (rf_up 9 a (rf_up 8 a T)))))) = _
  rw [rf_dc_up q8 q9, rf_dc_up q6 q7, rf_dc_up q4 q5, rf_dc_up q4 q5, rf_dc_up q4 q5, rf_dc_up q4 q5]
  repeat' split
  all_goals first | rfl | omega
theorem hl_224 {K1 B1 S1 E1 K B S E gs a b c : Int} (p0 : rf_XP xt 41 [] [K1, 3, a, 2, a, 1, a, 0, a, K]) (p1 : rf_XP xt 41 [] [B1, 3, 0, 2, 0, 1, 0, 0, 0, B]) (p2 : rf_XP xt 41 [] [S1, 0, b, S]) (p3 : rf_XP xt 41 [] [E1, 0, c, E]) (q0 : gs ≤ 0) (q1 : 0 ≤ gs) (q2 : -9223372036854775808 ≤ a) (q3 : a ≤ 9223372036854775807) (q4 : -9223372036854775808 ≤ b) (q5 : b ≤ 9223372036854775807) (q6 : -9223372036854775808 ≤ c) (q7 : c ≤ 9223372036854775807) : rf_XP xt 40 [] [16, K1, B1, S1, E1, K, B, S, E, gs, a, b, c] := by
  have hg : gs = 0 := by omega
  subst hg
  have e1 : K1 = (rf_up 3 a (rf_up 2 a (rf_up 1 a (rf_up 0 a K)))) := p0
  have e2 : B1 = (rf_up 3 0 (rf_up 2 0 (rf_up 1 0 (rf_up 0 0 B)))) := p1
  have e3 : S1 = rf_up 0 b S := p2
  have e4 : E1 = rf_up 0 c E := p3
  refine ⟨fun j hj => ⟨?_, ?_⟩, fun j hj => ⟨?_, ?_⟩⟩
  · rw [e1, rf_dc_up q2 q3, rf_dc_up q2 q3, rf_dc_up q2 q3, rf_dc_up q2 q3]
    repeat' split
    all_goals first | rfl | omega
  · rw [e2, rf_dc_up (by omega) (by omega), rf_dc_up (by omega) (by omega), rf_dc_up (by omega) (by omega), rf_dc_up (by omega) (by omega)]
    repeat' split
    all_goals first | rfl | omega
  · rw [e3, rf_dc_up q4 q5]
    repeat' split
    all_goals first | rfl | omega
  · rw [e4, rf_dc_up q6 q7]
    repeat' split
    all_goals first | rfl | omega
theorem hl_225 {a b c T gs : Int} (p0 : rf_XP xt 30 [o] [72, c, 65, b, 15, a, 14, a, 13, a, 12, a, T]) (q0 : gs ≤ 1) (q1 : 1 ≤ gs) (q2 : 0 ≤ T) (q3 : T ≤ rf_BIG) (q4 : -9223372036854775808 ≤ a) (q5 : a ≤ 9223372036854775807) (q6 : -9223372036854775808 ≤ b) (q7 : b ≤ 9223372036854775807) (q8 : -9223372036854775808 ≤ c) (q9 : c ≤ 9223372036854775807) : ∃ y1 : Int, (0 ≤ y1 ∧ y1 ≤ rf_BIG) ∧ rf_XP xt 30 [o] [y1] ∧ rf_XP xt 40 [] [15, y1, T, gs, a, b, c] := by
  have hg : gs = 1 := by omega
  subst hg
  obtain ⟨e, rfl⟩ := hc_some p0
  refine ⟨rf_chn [72, c, 65, b, 15, a, 14, a, 13, a, 12, a, T], (hl_upb (hl_upb (hl_upb (hl_upb (hl_upb (hl_upb ⟨q2, q3⟩ (i := 12) (by omega) (by omega)) (i := 13) (by omega) (by omega)) (i := 14) (by omega) (by omega)) (i := 15) (by omega) (by omega)) (i := 65) (by omega) (by omega)) (i := 72) (by omega) (by omega)), p0, ?_⟩
  show ∀ j : Nat, j ≤ 80 → rf_dc j (rf_chn [72, c, 65, b, 15, a, 14, a, 13, a, 12, a, T]) = if 8 + 4 * 1 ≤ (j : Int) ∧ (j : Int) < 12 + 4 * 1 then a else if (j : Int) = 64 + 1 then b else if (j : Int) = 71 + 1 then c else rf_dc j T
  intro j hj
  show rf_dc j (rf_up 72 c (rf_up 65 b (rf_up 15 a (rf_up 14 a (rf_up 13 a (rf_up 12 a T)))))) = _
  rw [rf_dc_up q8 q9, rf_dc_up q6 q7, rf_dc_up q4 q5, rf_dc_up q4 q5, rf_dc_up q4 q5, rf_dc_up q4 q5]
  repeat' split
  all_goals first | rfl | omega
theorem hl_226 {K1 B1 S1 E1 K B S E gs a b c : Int} (p0 : rf_XP xt 41 [] [K1, 7, a, 6, a, 5, a, 4, a, K]) (p1 : rf_XP xt 41 [] [B1, 7, 0, 6, 0, 5, 0, 4, 0, B]) (p2 : rf_XP xt 41 [] [S1, 1, b, S]) (p3 : rf_XP xt 41 [] [E1, 1, c, E]) (q0 : gs ≤ 1) (q1 : 1 ≤ gs) (q2 : -9223372036854775808 ≤ a) (q3 : a ≤ 9223372036854775807) (q4 : -9223372036854775808 ≤ b) (q5 : b ≤ 9223372036854775807) (q6 : -9223372036854775808 ≤ c) (q7 : c ≤ 9223372036854775807) : rf_XP xt 40 [] [16, K1, B1, S1, E1, K, B, S, E, gs, a, b, c] := by
  have hg : gs = 1 := by omega
  subst hg
  have e1 : K1 = (rf_up 7 a (rf_up 6 a (rf_up 5 a (rf_up 4 a K)))) := p0
  have e2 : B1 = (rf_up 7 0 (rf_up 6 0 (rf_up 5 0 (rf_up 4 0 B)))) := p1
  have e3 : S1 = rf_up 1 b S := p2
  have e4 : E1 = rf_up 1 c E := p3
  refine ⟨fun j hj => ⟨?_, ?_⟩, fun j hj => ⟨?_, ?_⟩⟩
  · rw [e1, rf_dc_up q2 q3, rf_dc_up q2 q3, rf_dc_up q2 q3, rf_dc_up q2 q3]
    repeat' split
    all_goals first | rfl | omega
  · rw [e2, rf_dc_up (by omega) (by omega), rf_dc_up (by omega) (by omega), rf_dc_up (by omega) (by omega), rf_dc_up (by omega) (by omega)]
    repeat' split
    all_goals first | rfl | omega
  · rw [e3, rf_dc_up q4 q5]
    repeat' split
    all_goals first | rfl | omega
  · rw [e4, rf_dc_up q6 q7]
    repeat' split
    all_goals first | rfl | omega
theorem hl_227 {a b c T gs : Int} (p0 : rf_XP xt 30 [o] [73, c, 66, b, 19, a, 18, a, 17, a, 16, a, T]) (q0 : gs ≤ 2) (q1 : 2 ≤ gs) (q2 : 0 ≤ T) (q3 : T ≤ rf_BIG) (q4 : -9223372036854775808 ≤ a) (q5 : a ≤ 9223372036854775807) (q6 : -9223372036854775808 ≤ b) (q7 : b ≤ 9223372036854775807) (q8 : -9223372036854775808 ≤ c) (q9 : c ≤ 9223372036854775807) : ∃ y1 : Int, (0 ≤ y1 ∧ y1 ≤ rf_BIG) ∧ rf_XP xt 30 [o] [y1] ∧ rf_XP xt 40 [] [15, y1, T, gs, a, b, c] := by
  have hg : gs = 2 := by omega
  subst hg
  obtain ⟨e, rfl⟩ := hc_some p0
  refine ⟨rf_chn [73, c, 66, b, 19, a, 18, a, 17, a, 16, a, T], (hl_upb (hl_upb (hl_upb (hl_upb (hl_upb (hl_upb ⟨q2, q3⟩ (i := 16) (by omega) (by omega)) (i := 17) (by omega) (by omega)) (i := 18) (by omega) (by omega)) (i := 19) (by omega) (by omega)) (i := 66) (by omega) (by omega)) (i := 73) (by omega) (by omega)), p0, ?_⟩
  show ∀ j : Nat, j ≤ 80 → rf_dc j (rf_chn [73, c, 66, b, 19, a, 18, a, 17, a, 16, a, T]) = if 8 + 4 * 2 ≤ (j : Int) ∧ (j : Int) < 12 + 4 * 2 then a else if (j : Int) = 64 + 2 then b else if (j : Int) = 71 + 2 then c else rf_dc j T
  intro j hj
  show rf_dc j (rf_up 73 c (rf_up 66 b (rf_up 19 a (rf_up 18 a (rf_up 17 a (rf_up 16 a T)))))) = _
  rw [rf_dc_up q8 q9, rf_dc_up q6 q7, rf_dc_up q4 q5, rf_dc_up q4 q5, rf_dc_up q4 q5, rf_dc_up q4 q5]
  repeat' split
  all_goals first | rfl | omega
theorem hl_228 {K1 B1 S1 E1 K B S E gs a b c : Int} (p0 : rf_XP xt 41 [] [K1, 11, a, 10, a, 9, a, 8, a, K]) (p1 : rf_XP xt 41 [] [B1, 11, 0, 10, 0, 9, 0, 8, 0, B]) (p2 : rf_XP xt 41 [] [S1, 2, b, S]) (p3 : rf_XP xt 41 [] [E1, 2, c, E]) (q0 : gs ≤ 2) (q1 : 2 ≤ gs) (q2 : -9223372036854775808 ≤ a) (q3 : a ≤ 9223372036854775807) (q4 : -9223372036854775808 ≤ b) (q5 : b ≤ 9223372036854775807) (q6 : -9223372036854775808 ≤ c) (q7 : c ≤ 9223372036854775807) : rf_XP xt 40 [] [16, K1, B1, S1, E1, K, B, S, E, gs, a, b, c] := by
  have hg : gs = 2 := by omega
  subst hg
  have e1 : K1 = (rf_up 11 a (rf_up 10 a (rf_up 9 a (rf_up 8 a K)))) := p0
  have e2 : B1 = (rf_up 11 0 (rf_up 10 0 (rf_up 9 0 (rf_up 8 0 B)))) := p1
  have e3 : S1 = rf_up 2 b S := p2
  have e4 : E1 = rf_up 2 c E := p3
  refine ⟨fun j hj => ⟨?_, ?_⟩, fun j hj => ⟨?_, ?_⟩⟩
  · rw [e1, rf_dc_up q2 q3, rf_dc_up q2 q3, rf_dc_up q2 q3, rf_dc_up q2 q3]
    repeat' split
    all_goals first | rfl | omega
  · rw [e2, rf_dc_up (by omega) (by omega), rf_dc_up (by omega) (by omega), rf_dc_up (by omega) (by omega), rf_dc_up (by omega) (by omega)]
    repeat' split
    all_goals first | rfl | omega
  · rw [e3, rf_dc_up q4 q5]
    repeat' split
    all_goals first | rfl | omega
  · rw [e4, rf_dc_up q6 q7]
    repeat' split
    all_goals first | rfl | omega
theorem hl_229 {a b c T gs : Int} (p0 : rf_XP xt 30 [o] [74, c, 67, b, 23, a, 22, a, 21, a, 20, a, T]) (q0 : gs ≤ 3) (q1 : 3 ≤ gs) (q2 : 0 ≤ T) (q3 : T ≤ rf_BIG) (q4 : -9223372036854775808 ≤ a) (q5 : a ≤ 9223372036854775807) (q6 : -9223372036854775808 ≤ b) (q7 : b ≤ 9223372036854775807) (q8 : -9223372036854775808 ≤ c) (q9 : c ≤ 9223372036854775807) : ∃ y1 : Int, (0 ≤ y1 ∧ y1 ≤ rf_BIG) ∧ rf_XP xt 30 [o] [y1] ∧ rf_XP xt 40 [] [15, y1, T, gs, a, b, c] := by
  have hg : gs = 3 := by omega
  subst hg
  obtain ⟨e, rfl⟩ := hc_some p0
  refine ⟨rf_chn [74, c, 67, b, 23, a, 22, a, 21, a, 20, a, T], (hl_upb (hl_upb (hl_upb (hl_upb (hl_upb (hl_upb ⟨q2, q3⟩ (i := 20) (by omega) (by omega)) (i := 21) (by omega) (by omega)) (i := 22) (by omega) (by omega)) (i := 23) (by omega) (by omega)) (i := 67) (by omega) (by omega)) (i := 74) (by omega) (by omega)), p0, ?_⟩
  show ∀ j : Nat, j ≤ 80 → rf_dc j (rf_chn [74, c, 67, b, 23, a, 22, a, 21, a, 20, a, T]) = if 8 + 4 * 3 ≤ (j : Int) ∧ (j : Int) < 12 + 4 * 3 then a else if (j : Int) = 64 + 3 then b else if (j : Int) = 71 + 3 then c else rf_dc j T
  intro j hj
  show rf_dc j (rf_up 74 c (rf_up 67 b (rf_up 23 a (rf_up 22 a (rf_up 21 a (rf_up 20 a T)))))) = _
  rw [rf_dc_up q8 q9, rf_dc_up q6 q7, rf_dc_up q4 q5, rf_dc_up q4 q5, rf_dc_up q4 q5, rf_dc_up q4 q5]
  repeat' split
  all_goals first | rfl | omega
theorem hl_230 {K1 B1 S1 E1 K B S E gs a b c : Int} (p0 : rf_XP xt 41 [] [K1, 15, a, 14, a, 13, a, 12, a, K]) (p1 : rf_XP xt 41 [] [B1, 15, 0, 14, 0, 13, 0, 12, 0, B]) (p2 : rf_XP xt 41 [] [S1, 3, b, S]) (p3 : rf_XP xt 41 [] [E1, 3, c, E]) (q0 : gs ≤ 3) (q1 : 3 ≤ gs) (q2 : -9223372036854775808 ≤ a) (q3 : a ≤ 9223372036854775807) (q4 : -9223372036854775808 ≤ b) (q5 : b ≤ 9223372036854775807) (q6 : -9223372036854775808 ≤ c) (q7 : c ≤ 9223372036854775807) : rf_XP xt 40 [] [16, K1, B1, S1, E1, K, B, S, E, gs, a, b, c] := by
  have hg : gs = 3 := by omega
  subst hg
  have e1 : K1 = (rf_up 15 a (rf_up 14 a (rf_up 13 a (rf_up 12 a K)))) := p0
  have e2 : B1 = (rf_up 15 0 (rf_up 14 0 (rf_up 13 0 (rf_up 12 0 B)))) := p1
  have e3 : S1 = rf_up 3 b S := p2
  have e4 : E1 = rf_up 3 c E := p3
  refine ⟨fun j hj => ⟨?_, ?_⟩, fun j hj => ⟨?_, ?_⟩⟩
  · rw [e1, rf_dc_up q2 q3, rf_dc_up q2 q3, rf_dc_up q2 q3, rf_dc_up q2 q3]
    repeat' split
    all_goals first | rfl | omega
  · rw [e2, rf_dc_up (by omega) (by omega), rf_dc_up (by omega) (by omega), rf_dc_up (by omega) (by omega), rf_dc_up (by omega) (by omega)]
    repeat' split
    all_goals first | rfl | omega
  · rw [e3, rf_dc_up q4 q5]
    repeat' split
    all_goals first | rfl | omega
  · rw [e4, rf_dc_up q6 q7]
    repeat' split
    all_goals first | rfl | omega
theorem hl_231 {a b c T gs : Int} (p0 : rf_XP xt 30 [o] [75, c, 68, b, 27, a, 26, a, 25, a, 24, a, T]) (q0 : gs ≤ 4) (q1 : 4 ≤ gs) (q2 : 0 ≤ T) (q3 : T ≤ rf_BIG) (q4 : -9223372036854775808 ≤ a) (q5 : a ≤ 9223372036854775807) (q6 : -9223372036854775808 ≤ b) (q7 : b ≤ 9223372036854775807) (q8 : -9223372036854775808 ≤ c) (q9 : c ≤ 9223372036854775807) : ∃ y1 : Int, (0 ≤ y1 ∧ y1 ≤ rf_BIG) ∧ rf_XP xt 30 [o] [y1] ∧ rf_XP xt 40 [] [15, y1, T, gs, a, b, c] := by
  have hg : gs = 4 := by omega
  subst hg
  obtain ⟨e, rfl⟩ := hc_some p0
  refine ⟨rf_chn [75, c, 68, b, 27, a, 26, a, 25, a, 24, a, T], (hl_upb (hl_upb (hl_upb (hl_upb (hl_upb (hl_upb ⟨q2, q3⟩ (i := 24) (by omega) (by omega)) (i := 25) (by omega) (by omega)) (i := 26) (by omega) (by omega)) (i := 27) (by omega) (by omega)) (i := 68) (by omega) (by omega)) (i := 75) (by omega) (by omega)), p0, ?_⟩
  show ∀ j : Nat, j ≤ 80 → rf_dc j (rf_chn [75, c, 68, b, 27, a, 26, a, 25, a, 24, a, T]) = if 8 + 4 * 4 ≤ (j : Int) ∧ (j : Int) < 12 + 4 * 4 then a else if (j : Int) = 64 + 4 then b else if (j : Int) = 71 + 4 then c else rf_dc j T
  intro j hj
  show rf_dc j (rf_up 75 c (rf_up 68 b (rf_up 27 a (rf_up 26 a (rf_up 25 a (rf_up 24 a T)))))) = _
  rw [rf_dc_up q8 q9, rf_dc_up q6 q7, rf_dc_up q4 q5, rf_dc_up q4 q5, rf_dc_up q4 q5, rf_dc_up q4 q5]
  repeat' split
  all_goals first | rfl | omega
theorem hl_232 {K1 B1 S1 E1 K B S E gs a b c : Int} (p0 : rf_XP xt 41 [] [K1, 19, a, 18, a, 17, a, 16, a, K]) (p1 : rf_XP xt 41 [] [B1, 19, 0, 18, 0, 17, 0, 16, 0, B]) (p2 : rf_XP xt 41 [] [S1, 4, b, S]) (p3 : rf_XP xt 41 [] [E1, 4, c, E]) (q0 : gs ≤ 4) (q1 : 4 ≤ gs) (q2 : -9223372036854775808 ≤ a) (q3 : a ≤ 9223372036854775807) (q4 : -9223372036854775808 ≤ b) (q5 : b ≤ 9223372036854775807) (q6 : -9223372036854775808 ≤ c) (q7 : c ≤ 9223372036854775807) : rf_XP xt 40 [] [16, K1, B1, S1, E1, K, B, S, E, gs, a, b, c] := by
  have hg : gs = 4 := by omega
  subst hg
  have e1 : K1 = (rf_up 19 a (rf_up 18 a (rf_up 17 a (rf_up 16 a K)))) := p0
  have e2 : B1 = (rf_up 19 0 (rf_up 18 0 (rf_up 17 0 (rf_up 16 0 B)))) := p1
  have e3 : S1 = rf_up 4 b S := p2
  have e4 : E1 = rf_up 4 c E := p3
  refine ⟨fun j hj => ⟨?_, ?_⟩, fun j hj => ⟨?_, ?_⟩⟩
  · rw [e1, rf_dc_up q2 q3, rf_dc_up q2 q3, rf_dc_up q2 q3, rf_dc_up q2 q3]
    repeat' split
    all_goals first | rfl | omega
  · rw [e2, rf_dc_up (by omega) (by omega), rf_dc_up (by omega) (by omega), rf_dc_up (by omega) (by omega), rf_dc_up (by omega) (by omega)]
    repeat' split
    all_goals first | rfl | omega
  · rw [e3, rf_dc_up q4 q5]
    repeat' split
    all_goals first | rfl | omega
  · rw [e4, rf_dc_up q6 q7]
    repeat' split
    all_goals first | rfl | omega
theorem hl_233 {a b c T gs : Int} (p0 : rf_XP xt 30 [o] [76, c, 69, b, 31, a, 30, a, 29, a, 28, a, T]) (q0 : gs ≤ 5) (q1 : 5 ≤ gs) (q2 : 0 ≤ T) (q3 : T ≤ rf_BIG) (q4 : -9223372036854775808 ≤ a) (q5 : a ≤ 9223372036854775807) (q6 : -9223372036854775808 ≤ b) (q7 : b ≤ 9223372036854775807) (q8 : -9223372036854775808 ≤ c) (q9 : c ≤ 9223372036854775807) : ∃ y1 : Int, (0 ≤ y1 ∧ y1 ≤ rf_BIG) ∧ rf_XP xt 30 [o] [y1] ∧ rf_XP xt 40 [] [15, y1, T, gs, a, b, c] := by
  have hg : gs = 5 := by omega
  subst hg
  obtain ⟨e, rfl⟩ := hc_some p0
  refine ⟨rf_chn [76, c, 69, b, 31, a, 30, a, 29, a, 28, a, T], (hl_upb (hl_upb (hl_upb (hl_upb (hl_upb (hl_upb ⟨q2, q3⟩ (i := 28) (by omega) (by omega)) (i := 29) (by omega) (by omega)) (i := 30) (by omega) (by omega)) (i := 31) (by omega) (by omega)) (i := 69) (by omega) (by omega)) (i := 76) (by omega) (by omega)), p0, ?_⟩
  show ∀ j : Nat, j ≤ 80 → rf_dc j (rf_chn [76, c, 69, b, 31, a, 30, a, 29, a, 28, a, T]) = if 8 + 4 * 5 ≤ (j : Int) ∧ (j : Int) < 12 + 4 * 5 then a else if (j : Int) = 64 + 5 then b else if (j : Int) = 71 + 5 then c else rf_dc j T
  intro j hj
  show rf_dc j (rf_up 76 c (rf_up 69 b (rf_up 31 a (rf_up 30 a (rf_up 29 a (rf_up 28 a T)))))) = _
  rw [rf_dc_up q8 q9, rf_dc_up q6 q7, rf_dc_up q4 q5, rf_dc_up q4 q5, rf_dc_up q4 q5, rf_dc_up q4 q5]
  repeat' split
  all_goals first | rfl | omega
theorem hl_234 {K1 B1 S1 E1 K B S E gs a b c : Int} (p0 : rf_XP xt 41 [] [K1, 23, a, 22, a, 21, a, 20, a, K]) (p1 : rf_XP xt 41 [] [B1, 23, 0, 22, 0, 21, 0, 20, 0, B]) (p2 : rf_XP xt 41 [] [S1, 5, b, S]) (p3 : rf_XP xt 41 [] [E1, 5, c, E]) (q0 : gs ≤ 5) (q1 : 5 ≤ gs) (q2 : -9223372036854775808 ≤ a) (q3 : a ≤ 9223372036854775807) (q4 : -9223372036854775808 ≤ b) (q5 : b ≤ 9223372036854775807) (q6 : -9223372036854775808 ≤ c) (q7 : c ≤ 9223372036854775807) : rf_XP xt 40 [] [16, K1, B1, S1, E1, K, B, S, E, gs, a, b, c] := by
  have hg : gs = 5 := by omega
  subst hg
  have e1 : K1 = (rf_up 23 a (rf_up 22 a (rf_up 21 a (rf_up 20 a K)))) := p0
  have e2 : B1 = (rf_up 23 0 (rf_up 22 0 (rf_up 21 0 (rf_up 20 0 B)))) := p1
  have e3 : S1 = rf_up 5 b S := p2
  have e4 : E1 = rf_up 5 c E := p3
  refine ⟨fun j hj => ⟨?_, ?_⟩, fun j hj => ⟨?_, ?_⟩⟩
  · rw [e1, rf_dc_up q2 q3, rf_dc_up q2 q3, rf_dc_up q2 q3, rf_dc_up q2 q3]
    repeat' split
    all_goals first | rfl | omega
  · rw [e2, rf_dc_up (by omega) (by omega), rf_dc_up (by omega) (by omega), rf_dc_up (by omega) (by omega), rf_dc_up (by omega) (by omega)]
    repeat' split
    all_goals first | rfl | omega
  · rw [e3, rf_dc_up q4 q5]
    repeat' split
    all_goals first | rfl | omega
  · rw [e4, rf_dc_up q6 q7]
    repeat' split
    all_goals first | rfl | omega
theorem hl_235 {a b c T gs : Int} (p0 : rf_XP xt 30 [o] [77, c, 70, b, 35, a, 34, a, 33, a, 32, a, T]) (q0 : gs ≤ 6) (q1 : 6 ≤ gs) (q2 : 0 ≤ T) (q3 : T ≤ rf_BIG) (q4 : -9223372036854775808 ≤ a) (q5 : a ≤ 9223372036854775807) (q6 : -9223372036854775808 ≤ b) (q7 : b ≤ 9223372036854775807) (q8 : -9223372036854775808 ≤ c) (q9 : c ≤ 9223372036854775807) : ∃ y1 : Int, (0 ≤ y1 ∧ y1 ≤ rf_BIG) ∧ rf_XP xt 30 [o] [y1] ∧ rf_XP xt 40 [] [15, y1, T, gs, a, b, c] := by
  have hg : gs = 6 := by omega
  subst hg
  obtain ⟨e, rfl⟩ := hc_some p0
  refine ⟨rf_chn [77, c, 70, b, 35, a, 34, a, 33, a, 32, a, T], (hl_upb (hl_upb (hl_upb (hl_upb (hl_upb (hl_upb ⟨q2, q3⟩ (i := 32) (by omega) (by omega)) (i := 33) (by omega) (by omega)) (i := 34) (by omega) (by omega)) (i := 35) (by omega) (by omega)) (i := 70) (by omega) (by omega)) (i := 77) (by omega) (by omega)), p0, ?_⟩
  show ∀ j : Nat, j ≤ 80 → rf_dc j (rf_chn [77, c, 70, b, 35, a, 34, a, 33, a, 32, a, T]) = if 8 + 4 * 6 ≤ (j : Int) ∧ (j : Int) < 12 + 4 * 6 then a else if (j : Int) = 64 + 6 then b else if (j : Int) = 71 + 6 then c else rf_dc j T
  intro j hj
  show rf_dc j (rf_up 77 c (rf_up 70 b (rf_up 35 a (rf_up 34 a (rf_up 33 a (rf_up 32 a T)))))) = _
  rw [rf_dc_up q8 q9, rf_dc_up q6 q7, rf_dc_up q4 q5, rf_dc_up q4 q5, rf_dc_up q4 q5, rf_dc_up q4 q5]
  repeat' split
  all_goals first | rfl | omega
theorem hl_236 {K1 B1 S1 E1 K B S E gs a b c : Int} (p0 : rf_XP xt 41 [] [K1, 27, a, 26, a, 25, a, 24, a, K]) (p1 : rf_XP xt 41 [] [B1, 27, 0, 26, 0, 25, 0, 24, 0, B]) (p2 : rf_XP xt 41 [] [S1, 6, b, S]) (p3 : rf_XP xt 41 [] [E1, 6, c, E]) (q0 : gs ≤ 6) (q1 : 6 ≤ gs) (q2 : -9223372036854775808 ≤ a) (q3 : a ≤ 9223372036854775807) (q4 : -9223372036854775808 ≤ b) (q5 : b ≤ 9223372036854775807) (q6 : -9223372036854775808 ≤ c) (q7 : c ≤ 9223372036854775807) : rf_XP xt 40 [] [16, K1, B1, S1, E1, K, B, S, E, gs, a, b, c] := by
  have hg : gs = 6 := by omega
  subst hg
  have e1 : K1 = (rf_up 27 a (rf_up 26 a (rf_up 25 a (rf_up 24 a K)))) := p0
  have e2 : B1 = (rf_up 27 0 (rf_up 26 0 (rf_up 25 0 (rf_up 24 0 B)))) := p1
  have e3 : S1 = rf_up 6 b S := p2
  have e4 : E1 = rf_up 6 c E := p3
  refine ⟨fun j hj => ⟨?_, ?_⟩, fun j hj => ⟨?_, ?_⟩⟩
  · rw [e1, rf_dc_up q2 q3, rf_dc_up q2 q3, rf_dc_up q2 q3, rf_dc_up q2 q3]
    repeat' split
    all_goals first | rfl | omega
  · rw [e2, rf_dc_up (by omega) (by omega), rf_dc_up (by omega) (by omega), rf_dc_up (by omega) (by omega), rf_dc_up (by omega) (by omega)]
    repeat' split
    all_goals first | rfl | omega
  · rw [e3, rf_dc_up q4 q5]
    repeat' split
    all_goals first | rfl | omega
  · rw [e4, rf_dc_up q6 q7]
    repeat' split
    all_goals first | rfl | omega
theorem hl_237 {T g G s i : Int}   : rf_XP xt 40 [] [17, T, T, g, 0, G, s, i] := by
  show ∀ j : Nat, j ≤ 80 → rf_dc j T = if 8 + 4 * g ≤ (j : Int) ∧ (j : Int) < 8 + 4 * (g + (0 : Int)) then rf_gv3 G s i (((j : Int) - 8) / 4 - g) 0 else if 64 + g ≤ (j : Int) ∧ (j : Int) < 64 + g + (0 : Int) then rf_gv3 G s i ((j : Int) - 64 - g) 1 else if 71 + g ≤ (j : Int) ∧ (j : Int) < 71 + g + (0 : Int) then rf_gv3 G s i ((j : Int) - 71 - g) 2 else rf_dc j T
  intro j hj
  rw [if_neg (by omega), if_neg (by omega), if_neg (by omega)]
theorem hl_238 {T1 T g c G s i U k a1 a2 a3 x r1 r2 r3 : Int} (p0 : rf_XP xt 40 [] [17, T1, T, g, c, G, s, i]) (p1 : rf_XP xt 40 [] [15, U, T1, k, a1, a2, a3]) (p2 : rf_XP xt 40 [] [13, x, i, c]) (p3 : rf_XP xt 40 [] [9, r1, G, s, x]) (p4 : rf_XP xt 35 [] [5, r1, 0, a1]) (p5 : rf_XP xt 40 [] [9, r2, G, s, x + 1]) (p6 : rf_XP xt 35 [] [5, r2, 0, a2]) (p7 : rf_XP xt 40 [] [9, r3, G, s, x + 2]) (p8 : rf_XP xt 35 [] [5, r3, 0, a3]) (p9 : rf_XP xt 10 [] [g, c, k]) (q0 : 0 ≤ g) (q1 : 0 ≤ c) (q2 : k ≤ 6) : rf_XP xt 40 [] [17, U, T, g, c + 1, G, s, i] := by
  have a0 : ∀ j : Nat, j ≤ 80 → rf_dc j T1 = if 8 + 4 * g ≤ (j : Int) ∧ (j : Int) < 8 + 4 * (g + c) then rf_gv3 G s i (((j : Int) - 8) / 4 - g) 0 else if 64 + g ≤ (j : Int) ∧ (j : Int) < 64 + g + c then rf_gv3 G s i ((j : Int) - 64 - g) 1 else if 71 + g ≤ (j : Int) ∧ (j : Int) < 71 + g + c then rf_gv3 G s i ((j : Int) - 71 - g) 2 else rf_dc j T := p0
  have h0 : ∀ j : Nat, j ≤ 80 → rf_dc j U = if 8 + 4 * k ≤ (j : Int) ∧ (j : Int) < 12 + 4 * k then a1 else if (j : Int) = 64 + k then a2 else if (j : Int) = 71 + k then a3 else rf_dc j T1 := p1
  have b0 : x = i + 3 * c := p2
  have c1 : r1 = rf_dc (60 * s + x).toNat G := p3
  have d1 : a1 = rf_wop 5 r1 0 := p4
  have c2 : r2 = rf_dc (60 * s + (x + 1)).toNat G := p5
  have d2 : a2 = rf_wop 5 r2 0 := p6
  have c3 : r3 = rf_dc (60 * s + (x + 2)).toNat G := p7
  have d3 : a3 = rf_wop 5 r3 0 := p8
  have e0 : k = g + c := p9
  have v0 : a1 = rf_gv3 G s i c 0 := by
    unfold rf_gv3
    rw [d1, c1, show 60 * s + i + 3 * c + 0 = 60 * s + x by omega]
  have v1 : a2 = rf_gv3 G s i c 1 := by
    unfold rf_gv3
    rw [d2, c2, show 60 * s + i + 3 * c + 1 = 60 * s + (x + 1) by omega]
  have v2 : a3 = rf_gv3 G s i c 2 := by
    unfold rf_gv3
    rw [d3, c3, show 60 * s + i + 3 * c + 2 = 60 * s + (x + 2) by omega]
  show ∀ j : Nat, j ≤ 80 → rf_dc j U = if 8 + 4 * g ≤ (j : Int) ∧ (j : Int) < 8 + 4 * (g + (c + 1)) then rf_gv3 G s i (((j : Int) - 8) / 4 - g) 0 else if 64 + g ≤ (j : Int) ∧ (j : Int) < 64 + g + (c + 1) then rf_gv3 G s i ((j : Int) - 64 - g) 1 else if 71 + g ≤ (j : Int) ∧ (j : Int) < 71 + g + (c + 1) then rf_gv3 G s i ((j : Int) - 71 - g) 2 else rf_dc j T
  intro j hj
  rw [h0 j hj, a0 j hj, v0, v1, v2]
  repeat' split
  all_goals first | rfl | omega | (congr 1; omega)
theorem hl_239 {K B S E g G s i : Int}   : rf_XP xt 40 [] [18, K, B, S, E, K, B, S, E, g, 0, G, s, i] := by
  show (∀ j : Nat, j < 28 → rf_dc j K = (if 4 * g ≤ (j : Int) ∧ (j : Int) < 4 * (g + (0 : Int)) then rf_gv3 G s i ((j : Int) / 4 - g) 0 else rf_dc j K) ∧ rf_dc j B = (if 4 * g ≤ (j : Int) ∧ (j : Int) < 4 * (g + (0 : Int)) then 0 else rf_dc j B)) ∧ ∀ j : Nat, j < 7 → rf_dc j S = (if g ≤ (j : Int) ∧ (j : Int) < g + (0 : Int) then rf_gv3 G s i ((j : Int) - g) 1 else rf_dc j S) ∧ rf_dc j E = (if g ≤ (j : Int) ∧ (j : Int) < g + (0 : Int) then rf_gv3 G s i ((j : Int) - g) 2 else rf_dc j E)
  refine ⟨fun j hj => ?_, fun j hj => ?_⟩
  · rw [if_neg (by omega), if_neg (by omega)]
    exact ⟨rfl, rfl⟩
  · rw [if_neg (by omega), if_neg (by omega)]
    exact ⟨rfl, rfl⟩
theorem hl_240 {K1 B1 S1 E1 K B S E g c G s i K2 B2 S2 E2 k a1 a2 a3 x r1 r2 r3 : Int} (p0 : rf_XP xt 40 [] [18, K1, B1, S1, E1, K, B, S, E, g, c, G, s, i]) (p1 : rf_XP xt 40 [] [16, K2, B2, S2, E2, K1, B1, S1, E1, k, a1, a2, a3]) (p2 : rf_XP xt 40 [] [13, x, i, c]) (p3 : rf_XP xt 40 [] [9, r1, G, s, x]) (p4 : rf_XP xt 35 [] [5, r1, 0, a1]) (p5 : rf_XP xt 40 [] [9, r2, G, s, x + 1]) (p6 : rf_XP xt 35 [] [5, r2, 0, a2]) (p7 : rf_XP xt 40 [] [9, r3, G, s, x + 2]) (p8 : rf_XP xt 35 [] [5, r3, 0, a3]) (p9 : rf_XP xt 10 [] [g, c, k]) (q0 : 0 ≤ g) (q1 : 0 ≤ c) (q2 : k ≤ 6) : rf_XP xt 40 [] [18, K2, B2, S2, E2, K, B, S, E, g, c + 1, G, s, i] := by
  have a0 : (∀ j : Nat, j < 28 → rf_dc j K1 = (if 4 * g ≤ (j : Int) ∧ (j : Int) < 4 * (g + c) then rf_gv3 G s i ((j : Int) / 4 - g) 0 else rf_dc j K) ∧ rf_dc j B1 = (if 4 * g ≤ (j : Int) ∧ (j : Int) < 4 * (g + c) then 0 else rf_dc j B)) ∧ ∀ j : Nat, j < 7 → rf_dc j S1 = (if g ≤ (j : Int) ∧ (j : Int) < g + c then rf_gv3 G s i ((j : Int) - g) 1 else rf_dc j S) ∧ rf_dc j E1 = (if g ≤ (j : Int) ∧ (j : Int) < g + c then rf_gv3 G s i ((j : Int) - g) 2 else rf_dc j E) := p0
  have h0 : (∀ j : Nat, j < 28 → rf_dc j K2 = (if 4 * k ≤ (j : Int) ∧ (j : Int) < 4 * k + 4 then a1 else rf_dc j K1) ∧ rf_dc j B2 = (if 4 * k ≤ (j : Int) ∧ (j : Int) < 4 * k + 4 then 0 else rf_dc j B1)) ∧ ∀ j : Nat, j < 7 → rf_dc j S2 = (if (j : Int) = k then a2 else rf_dc j S1) ∧ rf_dc j E2 = (if (j : Int) = k then a3 else rf_dc j E1) := p1
  have b0 : x = i + 3 * c := p2
  have c1 : r1 = rf_dc (60 * s + x).toNat G := p3
  have d1 : a1 = rf_wop 5 r1 0 := p4
  have c2 : r2 = rf_dc (60 * s + (x + 1)).toNat G := p5
  have d2 : a2 = rf_wop 5 r2 0 := p6
  have c3 : r3 = rf_dc (60 * s + (x + 2)).toNat G := p7
  have d3 : a3 = rf_wop 5 r3 0 := p8
  have e0 : k = g + c := p9
  have v0 : a1 = rf_gv3 G s i c 0 := by
    unfold rf_gv3
    rw [d1, c1, show 60 * s + i + 3 * c + 0 = 60 * s + x by omega]
  have v1 : a2 = rf_gv3 G s i c 1 := by
    unfold rf_gv3
    rw [d2, c2, show 60 * s + i + 3 * c + 1 = 60 * s + (x + 1) by omega]
  have v2 : a3 = rf_gv3 G s i c 2 := by
    unfold rf_gv3
    rw [d3, c3, show 60 * s + i + 3 * c + 2 = 60 * s + (x + 2) by omega]
  show (∀ j : Nat, j < 28 → rf_dc j K2 = (if 4 * g ≤ (j : Int) ∧ (j : Int) < 4 * (g + (c + 1)) then rf_gv3 G s i ((j : Int) / 4 - g) 0 else rf_dc j K) ∧ rf_dc j B2 = (if 4 * g ≤ (j : Int) ∧ (j : Int) < 4 * (g + (c + 1)) then 0 else rf_dc j B)) ∧ ∀ j : Nat, j < 7 → rf_dc j S2 = (if g ≤ (j : Int) ∧ (j : Int) < g + (c + 1) then rf_gv3 G s i ((j : Int) - g) 1 else rf_dc j S) ∧ rf_dc j E2 = (if g ≤ (j : Int) ∧ (j : Int) < g + (c + 1) then rf_gv3 G s i ((j : Int) - g) 2 else rf_dc j E)
  refine ⟨fun j hj => ?_, fun j hj => ?_⟩
  · obtain ⟨x1, x2⟩ := a0.1 j hj
    obtain ⟨y1, y2⟩ := h0.1 j hj
    rw [y1, y2, x1, x2, v0]
    refine ⟨?_, ?_⟩
    · repeat' split
      all_goals first | rfl | omega | (congr 1; omega)
    · repeat' split
      all_goals first | rfl | omega | (congr 1; omega)
  · obtain ⟨x1, x2⟩ := a0.2 j hj
    obtain ⟨y1, y2⟩ := h0.2 j hj
    rw [y1, y2, x1, x2, v1, v2]
    refine ⟨?_, ?_⟩
    · repeat' split
      all_goals first | rfl | omega | (congr 1; omega)
    · repeat' split
      all_goals first | rfl | omega | (congr 1; omega)
theorem hl_241 {T O W K B S E u p h g T1 K1 B1 S1 E1 c G s i d t j k l : Int} (p0 : rf_XP xt 40 [] [14, T, O, W, K, B, S, E, u, p, h, g]) (p1 : rf_XP xt 40 [] [17, T1, T, g, c, G, s, i]) (p2 : rf_XP xt 40 [] [18, K1, B1, S1, E1, K, B, S, E, l, d, G, t, j]) (p3 : rf_XP xt 10 [] [g, c, k]) (q0 : g ≤ l) (q1 : l ≤ g) (q2 : c ≤ d) (q3 : d ≤ c) (q4 : s ≤ t) (q5 : t ≤ s) (q6 : i ≤ j) (q7 : j ≤ i) (q8 : 0 ≤ g) (q9 : 0 ≤ c) (q10 : k ≤ 7) : rf_XP xt 40 [] [14, T1, O, W, K1, B1, S1, E1, u, p, h, k] := by
  have h0 : rf_hs T O W K B S E u p h g := p0
  have h1 : ∀ j : Nat, j ≤ 80 → rf_dc j T1 = if 8 + 4 * g ≤ (j : Int) ∧ (j : Int) < 8 + 4 * (g + c) then rf_gv3 G s i (((j : Int) - 8) / 4 - g) 0 else if 64 + g ≤ (j : Int) ∧ (j : Int) < 64 + g + c then rf_gv3 G s i ((j : Int) - 64 - g) 1 else if 71 + g ≤ (j : Int) ∧ (j : Int) < 71 + g + c then rf_gv3 G s i ((j : Int) - 71 - g) 2 else rf_dc j T := p1
  have h2 : (∀ z : Nat, z < 28 → rf_dc z K1 = (if 4 * l ≤ (z : Int) ∧ (z : Int) < 4 * (l + d) then rf_gv3 G t j ((z : Int) / 4 - l) 0 else rf_dc z K) ∧ rf_dc z B1 = (if 4 * l ≤ (z : Int) ∧ (z : Int) < 4 * (l + d) then 0 else rf_dc z B)) ∧ ∀ z : Nat, z < 7 → rf_dc z S1 = (if l ≤ (z : Int) ∧ (z : Int) < l + d then rf_gv3 G t j ((z : Int) - l) 1 else rf_dc z S) ∧ rf_dc z E1 = (if l ≤ (z : Int) ∧ (z : Int) < l + d then rf_gv3 G t j ((z : Int) - l) 2 else rf_dc z E) := p2
  have ek : k = g + c := p3
  rw [show d = c by omega, show t = s by omega, show j = i by omega, show l = g by omega] at h2
  show rf_hs T1 O W K1 B1 S1 E1 u p h k
  obtain ⟨a1, a2, a3, a4, a5, a6⟩ := h0
  refine ⟨fun j hj => ?_, fun j hj => ?_, fun j hj hg => ?_, ?_, ?_, ?_⟩
  · rw [h1 j (by omega), h1 (4 + j) (by omega), if_neg (by omega), if_neg (by omega), if_neg (by omega), if_neg (by omega), if_neg (by omega), if_neg (by omega)]
    exact a1 j hj
  · obtain ⟨c1, c2⟩ := h2.1 j hj
    have b1 := h1 (8 + j) (by omega)
    have b2 := h1 (36 + j) (by omega)
    rw [if_neg (by omega), if_neg (by omega), if_neg (by omega)] at b2
    refine ⟨fun hg => ?_, fun hg => ?_⟩
    · by_cases hx : 4 * g ≤ (j : Int)
      · rw [if_pos (by omega)] at b1 c1 c2
        refine ⟨?_, by rw [b2, c2]; exact (a2 j hj).2 hx⟩
        rw [b1, c1]
        exact congrArg (fun z => rf_gv3 G s i z 0) (by omega)
      · rw [if_neg (by omega), if_neg (by omega), if_neg (by omega)] at b1
        rw [if_neg (by omega)] at c1 c2
        rw [b1, b2, c1, c2]
        exact (a2 j hj).1 (by omega)
    · rw [b2]
      exact (a2 j hj).2 (by omega)
  · obtain ⟨c1, c2⟩ := h2.2 j hj
    have b1 := h1 (64 + j) (by omega)
    have b2 := h1 (71 + j) (by omega)
    rw [if_neg (by omega)] at b1 b2
    rw [if_neg (show ¬ (64 + g ≤ ((71 + j : Nat) : Int) ∧ ((71 + j : Nat) : Int) < 64 + g + c) by omega)] at b2
    by_cases hx : g ≤ (j : Int)
    · rw [if_pos (by omega)] at b1 b2 c1 c2
      rw [b1, b2, c1, c2]
      refine ⟨?_, ?_⟩
      · exact congrArg (fun z => rf_gv3 G s i z 1) (by omega)
      · exact congrArg (fun z => rf_gv3 G s i z 2) (by omega)
    · rw [if_neg (by omega), if_neg (by omega)] at b1
      rw [if_neg (by omega)] at b2 c1 c2
      rw [b1, b2, c1, c2]
      exact a3 j hj (by omega)
  · rw [h1 78 (by omega), if_neg (by omega), if_neg (by omega), if_neg (by omega)]
    exact a4
  · rw [h1 79 (by omega), if_neg (by omega), if_neg (by omega), if_neg (by omega)]
    exact a5
  · rw [h1 80 (by omega), if_neg (by omega), if_neg (by omega), if_neg (by omega)]
    exact a6
theorem hl_242 {G H g h i j v u : Int} (p0 : rf_XP xt 31 [] [G, g, i, v]) (p1 : rf_XP xt 31 [] [H, h, j, u]) (q0 : g ≤ h) (q1 : h ≤ g) (q2 : i ≤ j) (q3 : j ≤ i) (q4 : v ≤ u) (q5 : u ≤ v) : G ≤ H ∧ H ≤ G := by
  have a : G = rf_up i.toNat v g := p0.2
  have b : H = rf_up j.toNat u h := p1.2
  have e9 : G = H := by rw [a, b, show h = g by omega, show j = i by omega, show u = v by omega]
  omega
theorem hl_243 {G H : Int} (p0 : rf_XP xt 30 [o] [H]) (q0 : G ≤ H) (q1 : H ≤ G) : rf_XP xt 30 [o] [G] := by
  rw [show G = H by omega]
  exact p0
theorem hl_244 {d u s : Int} (p0 : rf_XP xt 10 [] [d, u, s])  : rf_XP xt 10 [] [d + (-1), u + 1, s] := by
  have e : s = d + u := p0
  show s = d + (-1) + (u + 1)
  omega
theorem hl_245 {d u s : Int} (p0 : rf_XP xt 10 [] [d, u, s])  : rf_XP xt 10 [] [d + 1, u + (-1), s] := by
  have e : s = d + u := p0
  show s = d + 1 + (u + (-1))
  omega
theorem hl_246 {d u s r : Int} (p0 : rf_XP xt 10 [] [d, u, s]) (p1 : rf_XP xt 8 [] [s, d + 1, r])  : r ≤ u + (-1) ∧ u + (-1) ≤ r := by
  have e : s = d + u := p0
  have f : r = s - (d + 1) := p1
  omega
theorem hl_247 {d u s : Int} (p0 : rf_XP xt 10 [] [d, u, s]) (q0 : s ≤ d) (q1 : 1 ≤ u) : False := by
  have e : s = d + u := p0
  omega
theorem hl_248 {d u s : Int} (p0 : rf_XP xt 10 [] [d, u, s]) (q0 : d + 1 ≤ s) (q1 : u ≤ 0) : False := by
  have e : s = d + u := p0
  omega
theorem hl_249 {P C A n g c k : Int} (p0 : rf_XP xt 40 [] [29, P, C, A, n, g]) (p1 : rf_XP xt 10 [] [g, c, k]) (q0 : 0 ≤ c) : rf_XP xt 40 [] [29, P, C, A, n, k] := by
  have a : ∀ j : Nat, (j : Int) < n → 0 ≤ rf_dc j P ∧ rf_dc j P = rf_pl (rf_dc j A) (rf_dc j C) g := p0
  have e : k = g + c := p1
  show ∀ j : Nat, (j : Int) < n → 0 ≤ rf_dc j P ∧ rf_dc j P = rf_pl (rf_dc j A) (rf_dc j C) k
  intro j hj
  obtain ⟨a1, a2⟩ := a j hj
  exact ⟨a1, by rw [a2]; exact (rf_pl_mono (by omega) (by omega)).symm⟩
theorem hl_250 {T1 T g c G s i t : Int} (p0 : rf_XP xt 40 [] [17, T1, T, g, c, G, s, i]) (q0 : s ≤ t) (q1 : t ≤ s) : rf_XP xt 40 [] [17, T1, T, g, c, G, t, i] := by
  rw [show t = s by omega]
  exact p0
end
