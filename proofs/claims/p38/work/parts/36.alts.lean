/-! cuts whose pictures fall apart: a ghost's range in pieces -/
def rf_cov : Int → Int → List (Int × Int) → Bool
  | lo, hi, [] => decide (hi < lo)
  | lo, hi, p :: l => decide (p.1 ≤ lo) && rf_cov (p.2 + 1) hi l
theorem rf_cov_spec : ∀ {ps : List (Int × Int)} {lo hi r : Int}, rf_cov lo hi ps = true → lo ≤ r → r ≤ hi → ∃ p ∈ ps, p.1 ≤ r ∧ r ≤ p.2
  | [], lo, hi, r, h, h1, h2 => by
    simp only [rf_cov, decide_eq_true_eq] at h
    omega
  | p :: l, lo, hi, r, h, h1, h2 => by
    simp only [rf_cov, Bool.and_eq_true, decide_eq_true_eq] at h
    by_cases hr : r ≤ p.2
    · exact ⟨p, List.mem_cons_self, by omega, hr⟩
    · obtain ⟨q, q1, q2⟩ := rf_cov_spec h.2 (r := r) (by omega) h2
      exact ⟨q, List.mem_cons_of_mem _ q1, q2⟩
def rf_setg (P : rf_AS) (g : Nat) (p : Int × Int) : rf_AS := ((P.1.1.set g (p.1, p.2, false), P.1.2), P.2)
def rf_spm : rf_AS → List (Nat × List (Int × Int)) → List rf_AS
  | P, [] => [P]
  | P, q :: l => q.2.flatMap (fun p => rf_spm (rf_setg P q.1 p) l)
def rf_cvm : rf_AS → List (Nat × List (Int × Int)) → Bool
  | _, [] => true
  | P, q :: l => (match P.1.1[q.1]? with
    | some z => rf_cov z.1 z.2.1 q.2
    | none => false) && q.2.all (fun p => rf_cvm (rf_setg P q.1 p) l)
theorem rf_spm_spec {ρ : List Int} : ∀ {l : List (Nat × List (Int × Int))} {P : rf_AS}, rf_cvm P l = true → rf_okE ρ P.1 → ∃ Q ∈ rf_spm P l, rf_okE ρ Q.1 ∧ Q.2 = P.2
  | [], P, _, h => ⟨P, List.mem_cons_self, h, rfl⟩
  | q :: l, P, hc, h => by
    simp only [rf_cvm, Bool.and_eq_true] at hc
    obtain ⟨h1, h2⟩ := hc
    split at h1
    next z hz =>
      obtain ⟨r, r1, r2, r3, r4⟩ := h.1 q.1 z hz
      obtain ⟨p, p1, p2, p3⟩ := rf_cov_spec h1 r2 r3
      have hE : rf_okE ρ (rf_setg P q.1 p).1 := by
        have hl := (List.getElem?_eq_some_iff.mp hz).1
        refine ⟨fun i z' hi => ?_, by simp [rf_setg, h.2.1], h.2.2⟩
        by_cases hiq : i = q.1
        · subst hiq
          have hi' : (P.1.1.set q.1 (p.1, p.2, false))[q.1]? = some z' := hi
          rw [List.getElem?_set_self hl] at hi'
          cases hi'
          exact ⟨r, r1, p2, p3, fun z => by cases z⟩
        · have hi' : (P.1.1.set q.1 (p.1, p.2, false))[i]? = some z' := hi
          rw [List.getElem?_set_ne (Ne.symm hiq)] at hi'
          exact h.1 i z' hi'
      obtain ⟨Q, Q1, Q2, Q3⟩ := rf_spm_spec (List.all_eq_true.mp h2 p p1) hE
      exact ⟨Q, List.mem_flatMap.mpr ⟨p, p1, Q1⟩, Q2, Q3⟩
    next => cases h1
/-- a picture by another that differs in its ghosts' bounds and facts alone -/
theorem rf_rel_E {D : va_G} {cl : List vw_C} {tys : List (ClassId × FieldType)} {A : Nat → Prop} {H0 : Heap} {xt : Nat → Nat} {nL : Nat} {ρ0 : List Int × List Nat} {P Q : rf_AS} {ρ : List Int} {ad : List Nat} {ws : va_W} {H : Heap} {locs : List Loc} {ls : Array Slot} {st : List Value} (h : rf_Rel D cl tys A H0 xt nL ρ0 P ρ ad ws H locs ls st) (hE : rf_okE ρ Q.1) (h1 : Q.2.1 = P.2.1) (h2 : Q.2.2.1 = P.2.2.1) (h3 : Q.2.2.2.1 = P.2.2.2.1) (hf : rf_facts xt ρ (ws.map Prod.snd) Q.2.2.2.2.1) : rf_Rel D cl tys A H0 xt nL ρ0 Q ρ ad ws H locs ls st := by
  obtain ⟨a1, a2, a3, a4, ⟨a5, a6, a7, a8⟩, a9, a10⟩ := h
  refine ⟨a1, hE, a3, ?_, ⟨a5, a6, a7, hf⟩, ?_, ?_⟩
  · rw [h3]; exact a4
  · rw [h1]; exact a9
  · rw [h2]; exact a10
theorem rf_alt_split {cu : rf_CUT} (l : List (Nat × List (Int × Int))) (h0 : cu.2.2.2 = rf_spm cu.2.1 l) (h : rf_cvm cu.2.1 l = true) : rf_ALT cu := by
  intro D cl tys A H0 xt nL ρ ap ad ws H locs ls st hR
  obtain ⟨Q, Q1, Q2, Q3⟩ := rf_spm_spec h hR.2.1
  refine ⟨Q, by rw [h0]; exact Q1, by rw [Q3], [], ?_⟩
  rw [List.append_nil]
  exact rf_rel_E hR Q2 (by rw [Q3]) (by rw [Q3]) (by rw [Q3]) (by rw [Q3]; exact hR.2.2.2.2.1.2.2.2)
def rf_tgt1 (E : rf_EV) (c : Nat × Nat × Int) : rf_EV := match rf_gi E c.1, rf_gi E c.2.1 with
  | some q, some q' => (match rf_cut E c.1 q.1 (q'.2.1 + c.2.2) false with
    | some E1 => (match rf_cut E1 c.2.1 (q.1 - c.2.2) q'.2.1 false with
      | some E2 => E2
      | none => E1)
    | none => E)
  | _, _ => E
theorem rf_tgt1_spec {ρ : List Int} {E : rf_EV} (hE : rf_okE ρ E) {c : Nat × Nat × Int} (hc : ∃ a b, rf_r ρ c.1 = some a ∧ rf_r ρ c.2.1 = some b ∧ a ≤ b + c.2.2) : rf_okE ρ (rf_tgt1 E c) := by
  obtain ⟨a, b, h1, h2, h3⟩ := hc
  unfold rf_tgt1
  split
  next q q' hq hq' =>
    have i1 := rf_ivl hE hq h1
    have i2 := rf_ivl hE hq' h2
    obtain ⟨E1, e1, k1⟩ := rf_cut_spec hE (lo := q.1) (hi := q'.2.1 + c.2.2) (nz := false) h1 (by omega) (by omega) (fun z => by cases z)
    obtain ⟨E2, e2, k2⟩ := rf_cut_spec k1 (lo := q.1 - c.2.2) (hi := q'.2.1) (nz := false) h2 (by omega) (by omega) (fun z => by cases z)
    rw [e1]
    dsimp only
    rw [e2]
    exact k2
  next => exact hE
theorem rf_tgt_fold {ρ : List Int} : ∀ (l : List (Nat × Nat × Int)) {E : rf_EV}, rf_okE ρ E → (∀ c ∈ l, ∃ a b, rf_r ρ c.1 = some a ∧ rf_r ρ c.2.1 = some b ∧ a ≤ b + c.2.2) → rf_okE ρ (l.foldl rf_tgt1 E)
  | [], _, h, _ => h
  | c :: l, E, h, hl => rf_tgt_fold l (rf_tgt1_spec h (hl c List.mem_cons_self)) (fun x hx => hl x (List.mem_cons_of_mem _ hx))
def rf_tight (P : rf_AS) : rf_AS := (P.1.2.foldl rf_tgt1 P.1, P.2)
theorem rf_alt_tight {cu : rf_CUT} (h0 : cu.2.2.2 = [rf_tight cu.2.1]) : rf_ALT cu := by
  intro D cl tys A H0 xt nL ρ ap ad ws H locs ls st hR
  refine ⟨rf_tight cu.2.1, by rw [h0]; exact List.mem_cons_self, rfl, [], ?_⟩
  rw [List.append_nil]
  exact rf_rel_E hR (rf_tgt_fold _ hR.2.1 hR.2.1.2.2) rfl rfl rfl hR.2.2.2.2.1.2.2.2
