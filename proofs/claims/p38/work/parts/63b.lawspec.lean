/-! the law's walk: its answers are 1 -/
section
variable {p : Program} {l : Launch} {e : Env} {R : Room} {s : State} {m : MethodId} {args : Array Value} {below : List Frame} {meth : Method} {c : Code} {Q : State → Prop}
variable {cc : ByteArray} {D : va_G} {cl : List vw_C} {tys : List (ClassId × FieldType)} {A : Nat → Prop} {H0 : Heap} {xt : Nat → Nat} {nL : Nat} {ρ0 : List Int × List Nat}
set_option maxHeartbeats 1000000 in
theorem rf_run_specL {own CO : String} {ct : List (Nat → FieldType)} {xs : List (List Int)} {N : (Nat → Prop) → State → Prop} {G Ts : List Cond} {co : Nat} {cx : rf_CX} {code : List (Nat × Instr × Nat)} {cuts : List rf_CUT} {posts : List rf_PO} {ret : Option FieldType} {n k mc ms : Nat} {cm : Option rf_M} {ρp ρm : List Int} {ap : List Nat}
    (hQ : ∀ (pc : Nat) (H : Heap) (locs : List Loc) (ls : Array Slot) (cells slots : Nat), decode cc pc = .ok (.ireturn, 1) → va_S A H0 H locs → cells ≤ mc → slots ≤ ms → W p l e R s m args below meth c H locs cells slots Q (F0 m pc ls [.int 1])) (hpo : posts.all (fun po => match po.2.1 with
      | some a => Nat.beq a.1 0 && (Nat.beq a.2.1 0 && decide (a.2.2 = 1))
      | none => false) = true) (hr : ret = some .boolean)
    (hnL : cx.2.2.2.2.2.2.2.1 = nL) (hct : rf_CT p l e R s m args below meth c cc own D cl ct tys xt xs N G Ts CO co A H0 cx) (hcode : ∀ q ∈ code, decode cc q.1 = .ok q.2) (hlens : rf_lens code = true) (hn : ρp.length = n) (hk : ap.length = k) (hρm : ∃ l, ρm = ρp ++ l) {vm : List Nat} (hcm : ∀ c0, cm = some c0 → rf_mval ρm c0 vm)
    (hcuts : ∀ cu ∈ cuts, ∀ vs, vs.length = cu.2.2.1.length → (∀ c0, cm = some c0 → rf_lex vs vm) → rf_CK p l e R s m args below meth c Q D cl tys A H0 xt nL ρp ap cu vs) :
    ∀ (f : Nat) (skip : Bool) (pc : Nat) (S : rf_AS), rf_run cl ct xs co cx code cuts posts ret n k mc ms cm f skip pc S = true → rf_G p l e R s m args below meth c Q D cl tys A H0 xt nL (ρm, ap) pc S
  | 0, _, _, _, h => by simp [rf_run] at h
  | f + 1, skip, pc, S, h => by
    unfold rf_run at h
    split at h
    next hs =>
      intro ρ ad ws H locs ls st hR
      obtain ⟨cu, c1, c2⟩ := List.any_eq_true.mp h
      simp only [Bool.and_eq_true, rf_arr] at c2
      obtain ⟨c3, -, c4, c5, c6⟩ := c2
      obtain ⟨lm, elm⟩ := hρm
      obtain ⟨l1, el1⟩ := hR.1.1
      have hρ : ∃ l, ρ = ρp ++ l := ⟨lm ++ l1, by rw [el1]; show ρm ++ l1 = _; rw [elm, List.append_assoc]⟩
      obtain ⟨ρ', ad', ws', a1, a2, a3, a4, a5⟩ := rf_fitc_spec c4 hn hk hρ hR.1.2 hR
      obtain ⟨vs, hvs⟩ := rf_mnn_spec a3.2.1 c5
      have hpc := Nat.eq_of_beq_eq_true c3
      have hlex : ∀ c0, cm = some c0 → rf_lex vs vm := by
        intro c0 hc0
        rw [hc0] at c6
        split at c6
        next e0 e1 => cases e0
        next c0' c1' e0 e1 =>
          cases e0
          have v1 := rf_msub_spec a1 e1 hvs
          have v2 : rf_mval ρ c0 vm := by
            rw [el1]
            exact rf_mval_app (hcm c0 hc0)
          exact rf_mlex_spec hR.2.1 v1 v2 c6
        next => cases c6
      have := hcuts cu c1 vs (rf_L_len hvs).symm hlex ρ' ad' ws' H locs ls st a2 hvs a3
      rw [← a4, ← a5, hpc] at this
      exact this
    next =>
      split at h
      next => cases h
      next q hq =>
        obtain ⟨hm, hp⟩ := rf_ats_mem hq
        have e2 := Nat.eq_of_beq_eq_true hp
        have hd : decode cc pc = .ok q.2 := by rw [← e2]; exact hcode q hm
        obtain ⟨qp, ins, len⟩ := q
        dsimp only at hd h
        split at h
        next hret =>
          simp only [Bool.and_eq_true] at h
          obtain ⟨h1, h2, h3⟩ := h
          have hlen := Nat.eq_of_beq_eq_true h2
          subst hlen
          intro ρ ad ws H locs ls st hR
          obtain ⟨po, p1, p2⟩ := List.any_eq_true.mp h3
          obtain ⟨-, p2⟩ := qb_t p2
          simp only [rf_fitr, Bool.and_eq_true] at p2
          obtain ⟨g2, g1, g3, g4, g5, g6⟩ := p2
          generalize (rf_smr n k po S).1 = σ at g1 g2 g5 g6
          generalize (rf_smr n k po S).2 = μ at g1 g2 g6
          obtain ⟨⟨⟨l1, el1⟩, l2, el2⟩, hE, had, hw, ⟨hP, hD, hS, hf⟩, ⟨lv, hl1, hl2⟩, hs⟩ := hR
          subst had
          obtain ⟨ρ', ws', a1, a2, a3, a4, a5, a6, a7, a8, -⟩ := rf_ms_spec (rf_msF_ms g1) hE hw hP hD hf
          have hp1 := List.all_eq_true.mp hpo po p1
          unfold rf_rty at h1
          split at h1
          next ty a hst =>
            rw [hst] at hs g2
            match st, hs with
            | [v], hs =>
              revert g2 hp1
              cases po.2.1 with
              | none => intro hp1 g2; cases hp1
              | some b =>
                intro hp1 g2
                simp only [Option.toList, rf_all2, Bool.and_eq_true, decide_eq_true_eq] at g2 hp1
                obtain ⟨tb, gb, db⟩ := b
                cases Nat.eq_of_beq_eq_true hp1.1
                cases Nat.eq_of_beq_eq_true hp1.2.1
                have e9 : db = 1 := hp1.2.2
                subst e9
                obtain ⟨x, rfl, r, r1, r2⟩ := rf_mv_spec hE a1 a3 g2.1 hs.1
                cases r1
                have hx1 : x = 1 := Int32.toInt_inj.mp (by rw [r2]; rfl)
                subst hx1
                exact hQ pc H locs ls _ _ hd hS (Nat.le_of_ble_eq_true g3) (Nat.le_of_ble_eq_true g4)
          next a hst => cases hr
          next hst => cases hr
          next => cases h1
        next =>
          split at h
          next ss hss =>
            have hlen := List.all_eq_true.mp hlens _ hm
            refine rf_step_spec hnL hct hd ?_ hss (fun z hz => ?_)
            · dsimp only at hlen
              cases hl : rf_len ins with
              | none => exact Or.inr rfl
              | some k0 =>
                rw [hl] at hlen
                exact Or.inl (by rw [Nat.eq_of_beq_eq_true hlen])
            · exact rf_run_specL hQ hpo hr hnL hct hcode hlens hn hk hρm hcm hcuts f false z.1 z.2 (List.all_eq_true.mp h z hz)
          next => cases h
end
