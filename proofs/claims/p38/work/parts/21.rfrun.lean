/-! THE CHECKER, the walk -/
noncomputable def qk_pick (pc : Nat) (S : List (List (Nat × Instr × Nat))) : List (Nat × Instr × Nat) → List (Nat × Instr × Nat) := List.rec (motive := fun _ => List (Nat × Instr × Nat) → List (Nat × Instr × Nat)) (fun cur => cur) (fun s _ ih cur => List.rec (motive := fun _ => List (Nat × Instr × Nat)) cur (fun q _ _ => bif Nat.ble q.1 pc then ih s else cur) s) S
theorem qk_pick_mem {pc : Nat} {code : List (Nat × Instr × Nat)} : ∀ (S : List (List (Nat × Instr × Nat))) (cur : List (Nat × Instr × Nat)), (∀ s ∈ S, ∀ a ∈ s, a ∈ code) → (∀ a ∈ cur, a ∈ code) → ∀ a ∈ qk_pick pc S cur, a ∈ code
  | [], _, _, h, a, ha => h a ha
  | [] :: _, _, _, h, a, ha => h a ha
  | (q :: s) :: S, cur, hS, h, a, ha => by
    have ha' : a ∈ (bif Nat.ble q.1 pc then qk_pick pc S (q :: s) else cur) := ha
    cases hb : Nat.ble q.1 pc with
    | true =>
      rw [hb] at ha'
      exact qk_pick_mem S (q :: s) (fun z hz => hS z (List.mem_cons_of_mem _ hz)) (hS _ List.mem_cons_self) a ha'
    | false =>
      rw [hb] at ha'
      exact h a ha'
noncomputable def rf_ats (code : List (Nat × Instr × Nat)) (pc : Nat) : Option (Nat × Instr × Nat) := (qk_pick pc (qk_sf 200 code) code).find? (fun q => Nat.beq q.1 pc)
theorem rf_ats_mem {code : List (Nat × Instr × Nat)} {pc : Nat} {q : Nat × Instr × Nat} (h : rf_ats code pc = some q) : q ∈ code ∧ Nat.beq q.1 pc = true := by
  have h' : (qk_pick pc (qk_sf 200 code) code).find? (fun q => Nat.beq q.1 pc) = some q := h
  have h2 := List.find?_some h'
  exact ⟨qk_pick_mem _ code (fun s hs a ha => qk_sf_mem 200 code s hs a ha) (fun a ha => ha) q (List.mem_of_find?_eq_some h'), h2⟩
noncomputable def rf_smr (n k : Nat) (po : rf_PO) (S : rf_AS) : List (Nat × Int) × List Nat := qj_fin n k po.1 po.2.2.1 po.2.2.2 S.2.2.2.1 S.2.2.2.2.1 po.2.1.toList S.2.2.1 [] []
/-- the answer's end: by one of the contract's -/
noncomputable def rf_fitr (n k mc ms : Nat) (po : rf_PO) (S : rf_AS) (σ : List (Nat × Int)) (μ : List Nat) : Bool := rf_all2 (rf_mv S.1 σ μ) po.2.1.toList S.2.2.1 && (rf_msF S.1 σ μ S.2.2.2.1 S.2.2.2.2.1 po.1 po.2.2.1 po.2.2.2 && (Nat.ble S.2.2.2.2.2.1 mc && (Nat.ble S.2.2.2.2.2.2 ms && (rf_idn σ n && rf_idm μ k))))
noncomputable def qf_pg (bs : List rf_GI) : List rf_GI → Nat → Bool := List.rec (motive := fun _ => List rf_GI → Nat → Bool) (fun _ _ => true) (fun b _ ih es n => Nat.rec (motive := fun _ => Bool) true (fun n' _ => List.rec (motive := fun _ => Bool) true (fun z et _ => Bool.rec (motive := fun _ => Bool) false (Bool.rec (motive := fun _ => Bool) false (ih et n') (qi_le z.2.1 b.2.1)) (qi_le b.1 z.1)) es) n) bs
noncomputable def rf_reti (posts : List rf_PO) (n k mc ms : Nat) (S : rf_AS) : Bool := posts.any (fun po => Bool.rec (motive := fun _ => Bool) false (rf_fitr n k mc ms po S (rf_smr n k po S).1 (rf_smr n k po S).2) (Bool.rec (motive := fun _ => Bool) false (qf_pg po.1.1 S.1.1 n) (qf_pvs (qk_gi S.1 (qk_sf 32 S.1.1)) po.1.1 po.2.1.toList S.2.2.1)))
def rf_rty (ret : Option FieldType) (ins : Instr) (S : rf_AS) : Bool := match ins, ret, S.2.2.1 with
  | .ireturn, some ty, [a] => Nat.beq a.1 0 && rf_fty S.1 ty a
  | .lreturn, some .long, [a] => Nat.beq a.1 1
  | .return_, none, [] => true
  | _, _, _ => false
def rf_isret (ins : Instr) : Bool := match ins with
  | .ireturn => true
  | .lreturn => true
  | .return_ => true
  | _ => false
noncomputable def rf_run (cl : List vw_C) (ct : List (Nat → FieldType)) (xs : List (List Int)) (co : Nat) (cx : rf_CX) (code : List (Nat × Instr × Nat)) (cuts : List rf_CUT) (posts : List rf_PO) (ret : Option FieldType) (n k mc ms : Nat) (cm : Option rf_M) : Nat → Bool → Nat → rf_AS → Bool
  | 0, _, _, _ => false
  | f + 1, skip, pc, S =>
    if !skip && cuts.any (fun c => Nat.beq c.1 pc) then cuts.any (fun c => Nat.beq c.1 pc && (rf_kq c.2.1 S && rf_arr n k cm c S))
    else match rf_ats code pc with
      | none => false
      | some q => if rf_isret q.2.1 then rf_rty ret q.2.1 S && (Nat.beq q.2.2 1 && rf_reti posts n k mc ms S)
        else (match rf_step cl ct xs co cx q.2.1 q.2.2 pc S with
          | some ss => ss.all (fun z => rf_run cl ct xs co cx code cuts posts ret n k mc ms cm f false z.1 z.2)
          | none => false)
def rf_lens (code : List (Nat × Instr × Nat)) : Bool := code.all (fun q => match rf_len q.2.1 with
  | some k => Nat.beq k q.2.2
  | none => true)
section
variable {p : Program} {l : Launch} {e : Env} {R : Room} {s : State} {m : MethodId} {args : Array Value} {below : List Frame} {meth : Method} {c : Code} {Q : State → Prop}
variable {cc : ByteArray} {D : va_G} {cl : List vw_C} {tys : List (ClassId × FieldType)} {A : Nat → Prop} {H0 : Heap} {xt : Nat → Nat} {nL : Nat} {ρ0 : List Int × List Nat}
/-- what a picture's fitting into another gives -/
theorem rf_fitc_spec {n k : Nat} {P S : rf_AS} {σ : List (Nat × Int)} {μ : List Nat} {ρ ρp : List Int} {ad ap : List Nat} {ws : va_W} {H : Heap} {locs : List Loc} {ls : Array Slot} {st : List Value} (h : rf_fitc n k P S σ μ = true) (hn : ρp.length = n) (hk : ap.length = k) (hρ : ∃ l, ρ = ρp ++ l) (had : ∃ l, ad = ap ++ l) (hR : rf_Rel D cl tys A H0 xt nL ρ0 S ρ ad ws H locs ls st) :
    ∃ ρ' ad' ws', rf_val ρ σ ρ' ∧ (∃ l, ρ' = ρp ++ l) ∧ rf_Rel D cl tys A H0 xt nL (ρ', ap) P ρ' ad' ws' H locs ls st ∧ S.2.2.2.2.2.1 = P.2.2.2.2.2.1 ∧ S.2.2.2.2.2.2 = P.2.2.2.2.2.2 := by
  simp only [rf_fitc, Bool.and_eq_true] at h
  obtain ⟨h1, h2, h3, h4, h5, h6, h7⟩ := h
  obtain ⟨-, hE, rfl, hw, ⟨hP, hD, hS, hf⟩, ⟨lv, hl1, hl2⟩, hs⟩ := hR
  obtain ⟨ρ', ws', a1, a2, a3, a4, a5, a6, a7, a8, -⟩ := rf_ms_spec (rf_msF_ms h1) hE hw hP hD hf
  obtain ⟨l0, rfl⟩ := hρ
  obtain ⟨l1, e1⟩ := had
  rw [← hn] at h6
  rw [← hk] at h7
  obtain ⟨l2, e2⟩ := rf_idn_spec a1 h6
  have a3' := a3
  rw [e1] at a3'
  obtain ⟨l3, e3⟩ := rf_idm_spec a3' h7
  refine ⟨ρ', ws'.map Prod.fst, ws', a1, ⟨l2, e2⟩, ⟨⟨⟨[], by simp⟩, l3, e3⟩, a4, rfl, a5, ⟨a6, a7, hS, a8⟩, ?_, rf_all2_L (R := rf_gv (ρp ++ l0) (ws.map Prod.fst) xt) (R' := rf_gv ρ' (ws'.map Prod.fst) xt) (fun x y z p q => rf_mv_spec hE a1 a3 p q) h2 hs⟩, Nat.eq_of_beq_eq_true h4, Nat.eq_of_beq_eq_true h5⟩
  have key : ∀ (LP : rf_LC), LP.all (rf_ml1 S.1 σ μ S.2.1) = true → ∃ lv', lv_has ls nL lv' ∧ rf_L (rf_loc ρ' (ws'.map Prod.fst) xt) LP lv' := by
    intro LP hLP
    induction LP with
    | nil => exact ⟨[], ⟨hl1.1, hl1.2.1, fun q hq => by cases hq⟩, trivial⟩
    | cons q LP ih =>
      simp only [List.all_cons, Bool.and_eq_true] at hLP
      obtain ⟨lv', g1, g2⟩ := ih hLP.2
      have hq := hLP.1
      unfold rf_ml1 at hq
      split at hq
      next b hb =>
        obtain ⟨v, v1, v2⟩ := rf_lget_spec hl2 hb
        refine ⟨(q.1, v) :: lv', ⟨g1.1, g1.2.1, fun z hz => ?_⟩, ⟨rfl, rf_mv_spec hE a1 a3 hq v2⟩, g2⟩
        rcases List.mem_cons.mp hz with rfl | hz
        · exact hl1.2.2 _ v1
        · exact g1.2.2 z hz
      next => cases hq
  exact key P.2.1 h3
/-- at a cut, with a measure's value -/
def rf_CK (p : Program) (l : Launch) (e : Env) (R : Room) (s : State) (m : MethodId) (args : Array Value) (below : List Frame) (meth : Method) (c : Code) (Q : State → Prop) (D : va_G) (cl : List vw_C) (tys : List (ClassId × FieldType)) (A : Nat → Prop) (H0 : Heap) (xt : Nat → Nat) (nL : Nat) (ρp : List Int) (ap : List Nat) (cu : rf_CUT) (vs : List Nat) : Prop :=
  ∀ (ρ : List Int) (ad : List Nat) (ws : va_W) (H : Heap) (locs : List Loc) (ls : Array Slot) (st : List Value), (∃ l, ρ = ρp ++ l) → rf_mval ρ cu.2.2.1 vs → rf_Rel D cl tys A H0 xt nL (ρ, ap) cu.2.1 ρ ad ws H locs ls st → W p l e R s m args below meth c H locs cu.2.1.2.2.2.2.2.1 cu.2.1.2.2.2.2.2.2 Q (F0 m cu.1 ls st)
set_option maxHeartbeats 1000000 in
theorem rf_run_spec {own CO : String} {ct : List (Nat → FieldType)} {xs : List (List Int)} {N : (Nat → Prop) → State → Prop} {G Ts : List Cond} {co : Nat} {cx : rf_CX} {code : List (Nat × Instr × Nat)} {cuts : List rf_CUT} {posts : List rf_PO} {ret : Option FieldType} {n k mc ms : Nat} {cm : Option rf_M} {ρp ρm : List Int} {ap : List Nat} {ws0 : va_W}
    (hQ : Q = MQ below (rf_Qc D cl tys xt posts ρp ws0 s.heap.size) args s mc ms (va_A ws0 s.heap.size)) (hap : ws0.map Prod.fst = ap) (hAe : A = va_A ws0 s.heap.size) (hr : meth.sig.returnType = ret) (hlocks : meth.locks = false)
    (hnL : cx.2.2.2.2.2.2.2.1 = nL) (hct : rf_CT p l e R s m args below meth c cc own D cl ct tys xt xs N G Ts CO co A H0 cx) (hcode : ∀ q ∈ code, decode cc q.1 = .ok q.2) (hlens : rf_lens code = true) (hn : ρp.length = n) (hk : ap.length = k) (hρm : ∃ l, ρm = ρp ++ l) {vm : List Nat} (hcm : ∀ c0, cm = some c0 → rf_mval ρm c0 vm)
    (hcuts : ∀ cu ∈ cuts, ∀ vs, vs.length = cu.2.2.1.length → (∀ c0, cm = some c0 → rf_lex vs vm) → rf_CK p l e R s m args below meth c Q D cl tys A H0 xt nL ρp ap cu vs) :
    ∀ (f : Nat) (skip : Bool) (pc : Nat) (S : rf_AS), rf_run cl ct xs co cx code cuts posts ret n k mc ms cm f skip pc S = true → rf_G p l e R s m args below meth c Q D cl tys A H0 xt nL (ρm, ap) pc S
  | 0, _, _, _, h => by simp [rf_run] at h
  | f + 1, skip, pc, S, h => by
    unfold rf_run at h
    split at h
    next hs =>
      intro ρ ad ws H locs ls st hR
      obtain ⟨cu, c1, c2⟩ := List.any_eq_true.mp h
      simp only [Bool.and_eq_true, rf_arr] at c2
      obtain ⟨c3, -, c4, c5, c6⟩ := c2
      obtain ⟨lm, elm⟩ := hρm
      obtain ⟨l1, el1⟩ := hR.1.1
      have hρ : ∃ l, ρ = ρp ++ l := ⟨lm ++ l1, by rw [el1]; show ρm ++ l1 = _; rw [elm, List.append_assoc]⟩
      obtain ⟨ρ', ad', ws', a1, a2, a3, a4, a5⟩ := rf_fitc_spec c4 hn hk hρ hR.1.2 hR
      obtain ⟨vs, hvs⟩ := rf_mnn_spec a3.2.1 c5
      have hpc := Nat.eq_of_beq_eq_true c3
      have hlex : ∀ c0, cm = some c0 → rf_lex vs vm := by
        intro c0 hc0
        rw [hc0] at c6
        split at c6
        next e0 e1 => cases e0
        next c0' c1' e0 e1 =>
          cases e0
          have v1 := rf_msub_spec a1 e1 hvs
          have v2 : rf_mval ρ c0 vm := by
            rw [el1]
            exact rf_mval_app (hcm c0 hc0)
          exact rf_mlex_spec hR.2.1 v1 v2 c6
        next => cases c6
      have := hcuts cu c1 vs (rf_L_len hvs).symm hlex ρ' ad' ws' H locs ls st a2 hvs a3
      rw [← a4, ← a5, hpc] at this
      exact this
    next =>
      split at h
      next => cases h
      next q hq =>
        obtain ⟨hm, hp⟩ := rf_ats_mem hq
        have e2 := Nat.eq_of_beq_eq_true hp
        have hd : decode cc pc = .ok q.2 := by rw [← e2]; exact hcode q hm
        obtain ⟨qp, ins, len⟩ := q
        dsimp only at hd h
        split at h
        next hret =>
          simp only [Bool.and_eq_true] at h
          obtain ⟨h1, h2, h3⟩ := h
          have hlen := Nat.eq_of_beq_eq_true h2
          subst hlen
          intro ρ ad ws H locs ls st hR
          obtain ⟨po, p1, p2⟩ := List.any_eq_true.mp h3
          obtain ⟨-, p2⟩ := qb_t p2
          simp only [rf_fitr, Bool.and_eq_true] at p2
          obtain ⟨g2, g1, g3, g4, g5, g6⟩ := p2
          generalize (rf_smr n k po S).1 = σ at g1 g2 g5 g6
          generalize (rf_smr n k po S).2 = μ at g1 g2 g6
          obtain ⟨lm, elm⟩ := hρm
          obtain ⟨⟨⟨l1, el1⟩, l2, el2⟩, hE, had, hw, ⟨hP, hD, hS, hf⟩, ⟨lv, hl1, hl2⟩, hs⟩ := hR
          subst had
          obtain ⟨⟨hx, hb, hml, hown, hts, hcl⟩, ⟨hK, hTY, hA, hH⟩, -⟩ := hct
          subst hH
          obtain ⟨ρ', ws', a1, a2, a3, a4, a5, a6, a7, a8, -⟩ := rf_ms_spec (rf_msF_ms g1) hE hw hP hD hf
          have hρ : ρ = ρp ++ (lm ++ l1) := by rw [el1]; show ρm ++ l1 = _; rw [elm, List.append_assoc]
          have a1' := a1
          rw [hρ] at a1'
          rw [← hn] at g5
          obtain ⟨l3, e3⟩ := rf_idn_spec a1' g5
          have a3' := a3
          have el2' : ws.map Prod.fst = ap ++ l2 := el2
          rw [el2'] at a3'
          rw [← hk] at g6
          obtain ⟨l4, e4⟩ := rf_idm_spec a3' g6
          have hqb : ∀ (v : Option Value) (t : State), t.heap = H → s.WarmedH t.vm → rf_ret ρ' (ws'.map Prod.fst) xt po.2.1 v → rf_Qc D cl tys xt posts ρp ws0 s.heap.size args s (.returned v) t := by
            intro v t ht hW hv
            subst e3
            refine ⟨⟨v, rfl, po, p1, l3, ws', a4, ⟨l4, by rw [e4, hap]⟩, a5, hv, a8, by rw [ht]; exact a6, va_K.moved hW.alike hK, by rw [← hAe]; exact a7⟩, ?_⟩
            rw [← hAe]
            exact hS.F ht
          have hfree : ∀ q ∈ locs, va_A ws0 s.heap.size q.base := by
            rw [← hAe]
            exact hS.2.2
          rw [hQ]
          refine W.widen (k := mc) (n := ms) (Nat.le_of_ble_eq_true g3) (Nat.le_of_ble_eq_true g4) ?_
          unfold rf_rty at h1
          split at h1
          next ty a hst =>
            simp only [Bool.and_eq_true] at h1
            rw [hst] at hs g2
            match st, hs with
            | [v], hs =>
              obtain ⟨ta, ga, da⟩ := a
              cases Nat.eq_of_beq_eq_true h1.1
              have hnar := rf_fty_spec hE h1.2 hs.1
              obtain ⟨x, rfl, -⟩ := rf_gv_int hs.1
              refine W.zret hx hb hr hnar.1 (fun t ht hW => hqb _ t ht hW ?_) hfree hd
              revert g2
              cases po.2.1 with
              | none => intro g2; simp [rf_all2] at g2
              | some b =>
                intro g2
                simp only [Option.toList, rf_all2, Bool.and_eq_true] at g2
                exact rf_mv_spec hE a1 a3 g2.1 hs.1
          next a hst =>
            rw [hst] at hs g2
            match st, hs with
            | [v], hs =>
              obtain ⟨ta, ga, da⟩ := a
              cases Nat.eq_of_beq_eq_true h1
              have hv := hs.1
              obtain ⟨x, rfl, -⟩ := rf_gv_long hs.1
              refine W.lret hx hb hr (fun t ht hW => hqb _ t ht hW ?_) hfree hd
              revert g2
              cases po.2.1 with
              | none => intro g2; simp [rf_all2] at g2
              | some b =>
                intro g2
                simp only [Option.toList, rf_all2, Bool.and_eq_true] at g2
                exact rf_mv_spec hE a1 a3 g2.1 hv
          next hst =>
            rw [hst] at hs g2
            match st, hs with
            | [], hs =>
              refine W.vret hx hb hr (fun t ht hW => hqb _ t ht hW ?_) hfree hd
              revert g2
              cases po.2.1 with
              | none => intro _; trivial
              | some b => intro g2; simp [rf_all2] at g2
          next => cases h1
        next =>
          split at h
          next ss hss =>
            have hlen := List.all_eq_true.mp hlens _ hm
            refine rf_step_spec hnL hct hd ?_ hss (fun z hz => ?_)
            · dsimp only at hlen
              cases hl : rf_len ins with
              | none => exact Or.inr rfl
              | some k0 =>
                rw [hl] at hlen
                exact Or.inl (by rw [Nat.eq_of_beq_eq_true hlen])
            · exact rf_run_spec hQ hap hAe hr hlocks hnL hct hcode hlens hn hk hρm hcm hcuts f false z.1 z.2 (List.all_eq_true.mp h z hz)
          next => cases h
end
