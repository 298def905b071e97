/-! cuts that use facts: what a picture's facts give -/
theorem rf_okE_set {ρ : List Int} {E : rf_EV} (h : rf_okE ρ E) {g : Nat} {r lo hi : Int} (hr : ρ[g]? = some r) (h1 : lo ≤ r) (h2 : r ≤ hi) : rf_okE ρ (E.1.set g (lo, hi, false), E.2) := by
  have hl : g < E.1.length := by rw [← h.2.1]; exact (List.getElem?_eq_some_iff.mp hr).1
  refine ⟨fun i z hi' => ?_, by simp [h.2.1], h.2.2⟩
  by_cases hiq : i = g
  · subst hiq
    have hi2 : (E.1.set i (lo, hi, false))[i]? = some z := hi'
    rw [List.getElem?_set_self hl] at hi2
    cases hi2
    exact ⟨r, hr, h1, h2, fun z => by cases z⟩
  · have hi2 : (E.1.set g (lo, hi, false))[i]? = some z := hi'
    rw [List.getElem?_set_ne (Ne.symm hiq)] at hi2
    exact h.1 i z hi2
theorem rf_okE_con {ρ : List Int} {E : rf_EV} (h : rf_okE ρ E) {g k : Nat} {d a b : Int} (ha : rf_r ρ g = some a) (hb : rf_r ρ k = some b) (hab : a ≤ b + d) : rf_okE ρ (E.1, (g, k, d) :: E.2) := by
  refine ⟨h.1, h.2.1, fun c hc => ?_⟩
  rcases List.mem_cons.mp hc with rfl | hc
  · exact ⟨a, b, ha, hb, hab⟩
  · exact h.2.2 c hc
theorem rf_alt_gen {cu : rf_CUT} (hs : ∀ Q ∈ cu.2.2.2, Q.2.1 = cu.2.1.2.1 ∧ Q.2.2.1 = cu.2.1.2.2.1 ∧ Q.2.2.2.1 = cu.2.1.2.2.2.1 ∧ Q.2.2.2.2.2 = cu.2.1.2.2.2.2.2)
    (h : ∀ (xt : Nat → Nat) (ρ : List Int) (es : List va_E), rf_okE ρ cu.2.1.1 → rf_facts xt ρ es cu.2.1.2.2.2.2.1 → ∃ Q ∈ cu.2.2.2, ∃ l, rf_okE (ρ ++ l) Q.1 ∧ rf_facts xt (ρ ++ l) es Q.2.2.2.2.1) : rf_ALT cu := by
  intro D cl tys A H0 xt nL ρ ap ad ws H locs ls st hR
  obtain ⟨⟨a1, a1'⟩, a2, a3, a4, ⟨a5, a6, a7, a8⟩, ⟨lv, a9, a9'⟩, a10⟩ := hR
  obtain ⟨Q, q1, l, q2, q3⟩ := h xt ρ _ a2 a8
  obtain ⟨s1, s2, s3, s4⟩ := hs Q q1
  obtain ⟨l0, e0⟩ := a1
  refine ⟨Q, q1, s4, l, ⟨⟨l0 ++ l, by rw [← List.append_assoc, ← e0]⟩, a1'⟩, q2, a3, ?_, ⟨a5, a6, a7, q3⟩, ⟨lv, a9, ?_⟩, ?_⟩
  · rw [s3]
    exact rf_L_mono (fun _ _ k => rf_cell_mono (fun _ _ z => rf_gv_app z) k) a4
  · rw [s1]
    exact rf_L_mono (fun _ _ k => ⟨k.1, rf_gv_app k.2⟩) a9'
  · rw [s2]
    exact rf_L_mono (fun _ _ k => rf_gv_app k) a10
/-- a picture with other ghosts and facts -/
def rf_wE (P : rf_AS) (E : rf_EV) (fs : List rf_FC) : rf_AS := (E, P.2.1, P.2.2.1, P.2.2.2.1, fs, P.2.2.2.2.2)
theorem rf_wE_s (P : rf_AS) (E : rf_EV) (fs : List rf_FC) : (rf_wE P E fs).2.1 = P.2.1 ∧ (rf_wE P E fs).2.2.1 = P.2.2.1 ∧ (rf_wE P E fs).2.2.2.1 = P.2.2.2.1 ∧ (rf_wE P E fs).2.2.2.2.2 = P.2.2.2.2.2 := ⟨rfl, rfl, rfl, rfl⟩
theorem rf_r_num {ρ : List Int} {g : Nat} {d x : Int} (h : rf_num ρ (0, g + 1, d) x) : ρ[g]? = some (x - d) := by
  obtain ⟨r, h1, h2⟩ := h
  have h1' : ρ[g]? = some r := h1
  rw [h1', h2]
  congr 1
  dsimp only
  omega
/-! changes that may be: boxes of their kinds and numbers -/
def rf_boxes : List ((Int × Int) × (Int × Int)) := [((0, 1), (0, 3)), ((2, 3), (0, 3)), ((2, 3), (10, 13)), ((2, 3), (20, 23)), ((2, 3), (30, 33)), ((2, 3), (40, 43)), ((2, 3), (50, 53)), ((2, 3), (60, 63)), ((4, 5), (0, 6)), ((6, 8), (-2147483648, 2147483647))]
theorem rf_boxes_spec {k x : Int} (h : rf_may k x) (h1 : -2147483648 ≤ x) (h2 : x ≤ 2147483647) : ∃ b ∈ rf_boxes, b.1.1 ≤ k ∧ k ≤ b.1.2 ∧ b.2.1 ≤ x ∧ x ≤ b.2.2 := by
  obtain ⟨a1, a2, a3, a4, a5⟩ := h
  have mem : ∀ b, rf_boxes.contains b = true → b ∈ rf_boxes := fun b hb => by simpa using hb
  by_cases c1 : k ≤ 1
  · have := a3 c1
    exact ⟨((0, 1), (0, 3)), mem _ (by decide), by dsimp only; omega⟩
  by_cases c2 : k ≤ 3
  · obtain ⟨b1, b2, b3⟩ := a4 (by omega) c2
    have hq : x / 10 = 0 ∨ x / 10 = 1 ∨ x / 10 = 2 ∨ x / 10 = 3 ∨ x / 10 = 4 ∨ x / 10 = 5 ∨ x / 10 = 6 := by omega
    rcases hq with q | q | q | q | q | q | q
    · exact ⟨((2, 3), (0, 3)), mem _ (by decide), by dsimp only; omega⟩
    · exact ⟨((2, 3), (10, 13)), mem _ (by decide), by dsimp only; omega⟩
    · exact ⟨((2, 3), (20, 23)), mem _ (by decide), by dsimp only; omega⟩
    · exact ⟨((2, 3), (30, 33)), mem _ (by decide), by dsimp only; omega⟩
    · exact ⟨((2, 3), (40, 43)), mem _ (by decide), by dsimp only; omega⟩
    · exact ⟨((2, 3), (50, 53)), mem _ (by decide), by dsimp only; omega⟩
    · exact ⟨((2, 3), (60, 63)), mem _ (by decide), by dsimp only; omega⟩
  by_cases c3 : k ≤ 5
  · have := a5 (by omega) c3
    exact ⟨((4, 5), (0, 6)), mem _ (by decide), by dsimp only; omega⟩
  · exact ⟨((6, 8), (-2147483648, 2147483647)), mem _ (by decide), by dsimp only; omega⟩
theorem rf_boxes_may {k x a b c d : Int} (h : rf_boxes.any (fun z => decide (z.1.1 ≤ a) && (decide (b ≤ z.1.2) && (decide (z.2.1 ≤ c) && decide (d ≤ z.2.2)))) = true) (h1 : a ≤ k) (h2 : k ≤ b) (h3 : c ≤ x) (h4 : x ≤ d) : rf_may k x := by
  obtain ⟨z, z1, z2⟩ := List.any_eq_true.mp h
  simp only [Bool.and_eq_true, decide_eq_true_eq] at z2
  simp only [rf_boxes, List.mem_cons, List.not_mem_nil, or_false] at z1
  unfold rf_may rf_gt
  rcases z1 with rfl | rfl | rfl | rfl | rfl | rfl | rfl | rfl | rfl | rfl <;> dsimp only at z2 <;> omega
/-- a fact's numbers and meaning -/
theorem rf_fact_of {xt : Nat → Nat} {ρ : List Int} {es : List va_E} {fs : List rf_FC} (h : rf_facts xt ρ es fs) {f : rf_FC} (hf : f ∈ fs) : rf_fact xt ρ es f := h f hf
theorem rf_f6 {xt : Nat → Nat} {ρ : List Int} {es : List va_E} {q1 q2 : Nat} {n : rf_AV} (h : rf_fact xt ρ es (6, [q1, q2], [n])) : ∃ nv, rf_num ρ n nv ∧ ∃ (c1 c2 : ClassId) (n1 n2 : Nat) (f g : Nat → Int32), es[q1]? = some (.inl (c1, n1, .inl f)) ∧ es[q2]? = some (.inl (c2, n2, .inl g)) ∧ ∀ j : Nat, (j : Int) < nv → rf_may (f j).toInt (g j).toInt := by
  obtain ⟨xs, hx, hX⟩ := h
  match xs, hx with
  | [nv], hx =>
    dsimp only [List.map] at hX
    have hs := rf_XP_some hX
    obtain ⟨e1, h1⟩ := hs es[q1]? (by simp)
    obtain ⟨e2, h2⟩ := hs es[q2]? (by simp)
    rw [h1, h2] at hX
    obtain ⟨c1, c2, n1, n2, f, g, k1, k2, k3⟩ := hX
    exact ⟨nv, hx.1, c1, c2, n1, n2, f, g, by rw [h1, k1], by rw [h2, k2], k3⟩
theorem rf_f17 {xt : Nat → Nat} {ρ : List Int} {es : List va_E} {q1 q2 : Nat} {n : rf_AV} (h : rf_fact xt ρ es (17, [q1, q2], [n])) : ∃ nv, rf_num ρ n nv ∧ ∃ (c1 c2 : ClassId) (n1 n2 : Nat) (f g : Nat → Int32), es[q1]? = some (.inl (c1, n1, .inl f)) ∧ es[q2]? = some (.inl (c2, n2, .inl g)) ∧ ∀ j : Nat, (j : Int) < 40 → (j : Int) ≠ nv → rf_may (f j).toInt (g j).toInt := by
  obtain ⟨xs, hx, hX⟩ := h
  match xs, hx with
  | [nv], hx =>
    dsimp only [List.map] at hX
    have hs := rf_XP_some hX
    obtain ⟨e1, h1⟩ := hs es[q1]? (by simp)
    obtain ⟨e2, h2⟩ := hs es[q2]? (by simp)
    rw [h1, h2] at hX
    obtain ⟨c1, c2, n1, n2, f, g, k1, k2, k3⟩ := hX
    exact ⟨nv, hx.1, c1, c2, n1, n2, f, g, by rw [h1, k1], by rw [h2, k2], k3⟩
theorem rf_f1 {xt : Nat → Nat} {ρ : List Int} {es : List va_E} {q : Nat} {i v : rf_AV} (h : rf_fact xt ρ es (1, [q], [i, v])) : ∃ iv vv, rf_num ρ i iv ∧ rf_num ρ v vv ∧ ∃ (c1 : ClassId) (n1 : Nat) (f : Nat → Int32), es[q]? = some (.inl (c1, n1, .inl f)) ∧ 0 ≤ iv ∧ (f iv.toNat).toInt = vv := by
  obtain ⟨xs, hx, hX⟩ := h
  match xs, hx with
  | [iv, vv], hx =>
    dsimp only [List.map] at hX
    have hs := rf_XP_some hX
    obtain ⟨e1, h1⟩ := hs es[q]? (by simp)
    rw [h1] at hX
    obtain ⟨c1, n1, f, k1, k2, k3⟩ := hX
    exact ⟨iv, vv, hx.1, hx.2.1, c1, n1, f, by rw [h1, k1], k2, k3⟩
theorem rf_num_eq {ρ : List Int} {a : rf_AV} {x y : Int} (h1 : rf_num ρ a x) (h2 : rf_num ρ a y) : x = y := by
  obtain ⟨r, a1, a2⟩ := h1
  obtain ⟨r', b1, b2⟩ := h2
  rw [a1] at b1
  cases b1
  omega
