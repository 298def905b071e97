/-! large checks, in pieces -/
theorem rf_chk_of {cl : List vw_C} {ct : List (Nat → FieldType)} {xs : List (List Int)} {co : Nat} {cx : rf_CX} {code : List (Nat × Instr × Nat)} {cuts : List rf_CUT} {nm fuel : Nat} {sp : rf_SP}
    (h1 : (rf_lens code && (Nat.ble (rf_cats sp.2.2.1.2.1) sp.1.2.2.1 && (Nat.beq cx.2.2.2.2.2.2.2.1 sp.1.2.2.1 && cuts.all (fun cu => Nat.beq cu.2.2.1.length nm)))) = true)
    (h2 : rf_run cl ct xs co cx code cuts sp.2.2.2 sp.1.2.2.2 sp.2.2.1.1.1.length sp.2.2.1.2.2.1.length sp.2.1.2.2.1 sp.2.1.2.2.2 none fuel false 0 (rf_entS sp) = true)
    (h3 : ∀ cu ∈ cuts, ∀ alt ∈ cu.2.2.2, rf_run cl ct xs co cx code cuts sp.2.2.2 sp.1.2.2.2 sp.2.2.1.1.1.length sp.2.2.1.2.2.1.length sp.2.1.2.2.1 sp.2.1.2.2.2 (some cu.2.2.1) fuel true cu.1 alt = true) : rf_chk cl ct xs co cx code cuts nm fuel sp = true := by
  simp only [Bool.and_eq_true] at h1
  obtain ⟨a1, a2, a3, a4⟩ := h1
  simp only [rf_chk, Bool.and_eq_true]
  refine ⟨a1, a2, a3, h2, List.all_eq_true.mpr (fun cu hcu => ?_)⟩
  simp only [Bool.and_eq_true]
  exact ⟨List.all_eq_true.mp a4 cu hcu, List.all_eq_true.mpr (h3 cu hcu)⟩
theorem rf_pcs {α : Type} {f : α → Bool} : ∀ (k : Nat) {l : List α}, (∀ i, i < k → (l.drop i).head?.all f = true) → l.drop k = [] → ∀ x ∈ l, f x = true
  | 0, l, _, h2, x, hx => by
    have e : l = [] := h2
    rw [e] at hx
    cases hx
  | k + 1, [], _, _, x, hx => by cases hx
  | k + 1, a :: l, h1, h2, x, hx => by
    rcases List.mem_cons.mp hx with rfl | hx
    · have := h1 0 (by omega)
      simpa using this
    · exact rf_pcs k (fun i hi => by have := h1 (i + 1) (by omega); simpa using this) (by simpa using h2) x hx
