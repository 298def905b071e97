/-! a walk's first steps, and the rest of it in pieces -/
def rf_fro (cl : List vw_C) (ct : List (Nat → FieldType)) (xs : List (List Int)) (co : Nat) (cx : rf_CX) (code : List (Nat × Instr × Nat)) (cuts : List rf_CUT) : Nat → Bool → Nat → rf_AS → Option (List (Nat × rf_AS))
  | 0, _, pc, S => some [(pc, S)]
  | n + 1, skip, pc, S =>
    if !skip && cuts.any (fun c => Nat.beq c.1 pc) then none
    else match rf_ats code pc with
      | none => none
      | some q => if rf_isret q.2.1 then none
        else (match rf_step cl ct xs co cx q.2.1 q.2.2 pc S with
          | some ss => (rf_om (fun z => rf_fro cl ct xs co cx code cuts n false z.1 z.2) ss).map (fun l => l.flatten)
          | none => none)
section
variable {cl : List vw_C} {ct : List (Nat → FieldType)} {xs : List (List Int)} {co : Nat} {cx : rf_CX} {code : List (Nat × Instr × Nat)} {cuts : List rf_CUT} {posts : List rf_PO} {ret : Option FieldType} {n0 k0 mc ms : Nat} {cm : Option rf_M}
theorem rf_fro_s {n f : Nat} (ih : ∀ (pc : Nat) (S : rf_AS) (l : List (Nat × rf_AS)), rf_fro cl ct xs co cx code cuts n false pc S = some l → (∀ z ∈ l, rf_run cl ct xs co cx code cuts posts ret n0 k0 mc ms cm f false z.1 z.2 = true) → rf_run cl ct xs co cx code cuts posts ret n0 k0 mc ms cm (f + n) false pc S = true) (skip : Bool) (pc : Nat) (S : rf_AS) (l : List (Nat × rf_AS)) (h : rf_fro cl ct xs co cx code cuts (n + 1) skip pc S = some l) (hl : ∀ z ∈ l, rf_run cl ct xs co cx code cuts posts ret n0 k0 mc ms cm f false z.1 z.2 = true) : rf_run cl ct xs co cx code cuts posts ret n0 k0 mc ms cm (f + n + 1) skip pc S = true := by
  unfold rf_fro at h
  split at h
  next => cases h
  next hc =>
    split at h
    next => cases h
    next q hq =>
      split at h
      next => cases h
      next hr =>
        split at h
        next ss hs =>
          cases hL : rf_om (fun z => rf_fro cl ct xs co cx code cuts n false z.1 z.2) ss with
          | none =>
            rw [hL] at h
            cases h
          | some L =>
            rw [hL] at h
            have e : L.flatten = l := Option.some.inj h
            unfold rf_run
            rw [if_neg hc, hq]
            dsimp only
            rw [if_neg hr, hs]
            dsimp only
            refine List.all_eq_true.mpr (fun z hz => ?_)
            obtain ⟨i, hi⟩ := List.getElem?_of_mem hz
            obtain ⟨o1, o2⟩ := rf_om_at hL
            have hil : i < L.length := by rw [← o1]; exact (List.getElem?_eq_some_iff.mp hi).1
            obtain ⟨a, a1, a2⟩ := o2 i L[i] (List.getElem?_eq_getElem hil)
            rw [hi] at a1
            cases a1
            exact ih z.1 z.2 L[i] a2 (fun y hy => hl y (by rw [← e]; exact List.mem_flatten.mpr ⟨L[i], List.getElem_mem hil, hy⟩))
        next => cases h
theorem rf_fro_f : ∀ (n f pc : Nat) (S : rf_AS) (l : List (Nat × rf_AS)), rf_fro cl ct xs co cx code cuts n false pc S = some l → (∀ z ∈ l, rf_run cl ct xs co cx code cuts posts ret n0 k0 mc ms cm f false z.1 z.2 = true) → rf_run cl ct xs co cx code cuts posts ret n0 k0 mc ms cm (f + n) false pc S = true
  | 0, f, pc, S, l, h, hl => by
    have e : [(pc, S)] = l := Option.some.inj h
    exact hl (pc, S) (by rw [← e]; exact List.mem_cons_self)
  | n + 1, f, pc, S, l, h, hl => rf_fro_s (fun pc S l h hl => rf_fro_f n f pc S l h hl) false pc S l h hl
/-- the rest in pieces -/
theorem rf_fro_p {n f : Nat} {skip : Bool} {pc : Nat} {S : rf_AS} (k : Nat) (h : ∀ i, i < k → (match rf_fro cl ct xs co cx code cuts (n + 1) skip pc S with
    | some l => (l.drop i).head?.all (fun z => rf_run cl ct xs co cx code cuts posts ret n0 k0 mc ms cm f false z.1 z.2)
    | none => false) = true) (h2 : (match rf_fro cl ct xs co cx code cuts (n + 1) skip pc S with
    | some l => (l.drop k).isEmpty
    | none => false) = true) : rf_run cl ct xs co cx code cuts posts ret n0 k0 mc ms cm (f + n + 1) skip pc S = true := by
  cases hf : rf_fro cl ct xs co cx code cuts (n + 1) skip pc S with
  | none =>
    rw [hf] at h2
    cases h2
  | some l =>
    rw [hf] at h2
    refine rf_fro_s (fun pc S l h hl => rf_fro_f n f pc S l h hl) skip pc S l hf (rf_pcs k (fun i hi => ?_) (List.isEmpty_iff.mp h2))
    have := h i hi
    rw [hf] at this
    exact this
end
