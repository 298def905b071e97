/-! THE CHECKER: a method's contract out of its walk -/
def rf_largs : Nat → List rf_AV → rf_LC
  | _, [] => []
  | i, a :: l => (i, a) :: rf_largs (if Nat.beq a.1 1 then i + 2 else i + 1) l
theorem rf_largs_spec {ρ : List Int} {ad : List Nat} {xt : Nat → Nat} : ∀ {as : List rf_AV} {vs : List Value} (i : Nat), rf_L (rf_gv ρ ad xt) as vs → rf_L (rf_loc ρ ad xt) (rf_largs i as) (lv_args i vs)
  | [], [], _, _ => trivial
  | a :: as, v :: vs, i, h => by
    refine ⟨⟨rfl, h.1⟩, ?_⟩
    have e : (if Nat.beq a.1 1 then i + 2 else i + 1) = (if v.category = 2 then i + 2 else i + 1) := by
      rw [rf_gv_cat h.1]
      by_cases h1 : a.1 = 1
      · rw [if_pos h1, h1]; rfl
      · rw [if_neg h1, if_neg (fun z => h1 (Nat.eq_of_beq_eq_true z))]; rfl
    rw [e]
    exact rf_largs_spec _ h.2
  | [], _ :: _, _, h => h.elim
  | _ :: _, [], _, h => h.elim
theorem rf_sl_len (vs : List Value) : (lg_sl vs).length = (vs.map fun v => v.category).sum := by
  induction vs with
  | nil => rfl
  | cons v vs ih =>
    simp only [lg_sl, List.flatMap_cons, List.length_append, List.map_cons, List.sum_cons] at ih ⊢
    rw [ih]
    congr 1
    rcases lv_cat v with h | h <;> simp [h]
def rf_ALT (cu : rf_CUT) : Prop := ∀ (D : va_G) (cl : List vw_C) (tys : List (ClassId × FieldType)) (A : Nat → Prop) (H0 : Heap) (xt : Nat → Nat) (nL : Nat) (ρ : List Int) (ap ad : List Nat) (ws : va_W) (H : Heap) (locs : List Loc) (ls : Array Slot) (st : List Value), rf_Rel D cl tys A H0 xt nL (ρ, ap) cu.2.1 ρ ad ws H locs ls st →
  ∃ alt ∈ cu.2.2.2, alt.2.2.2.2.2 = cu.2.1.2.2.2.2.2 ∧ ∃ l, rf_Rel D cl tys A H0 xt nL (ρ, ap) alt (ρ ++ l) ad ws H locs ls st
theorem rf_alt_self {cu : rf_CUT} (h : cu.2.2.2 = [cu.2.1]) : rf_ALT cu := by
  intro D cl tys A H0 xt nL ρ ap ad ws H locs ls st hR
  refine ⟨cu.2.1, by rw [h]; exact List.mem_cons_self, rfl, [], ?_⟩
  rw [List.append_nil]
  exact hR
def rf_entS (sp : rf_SP) : rf_AS := (sp.2.2.1.1, rf_largs 0 sp.2.2.1.2.1, [], sp.2.2.1.2.2.1, sp.2.2.1.2.2.2, 0, 0)
/-- the whole check of a method -/
noncomputable def rf_chk (cl : List vw_C) (ct : List (Nat → FieldType)) (xs : List (List Int)) (co : Nat) (cx : rf_CX) (code : List (Nat × Instr × Nat)) (cuts : List rf_CUT) (nm fuel : Nat) (sp : rf_SP) : Bool :=
  rf_lens code && (Nat.ble (rf_cats sp.2.2.1.2.1) sp.1.2.2.1 && (Nat.beq cx.2.2.2.2.2.2.2.1 sp.1.2.2.1 &&
  (rf_run cl ct xs co cx code cuts sp.2.2.2 sp.1.2.2.2 sp.2.2.1.1.1.length sp.2.2.1.2.2.1.length sp.2.1.2.2.1 sp.2.1.2.2.2 none fuel false 0 (rf_entS sp) &&
  cuts.all (fun cu => Nat.beq cu.2.2.1.length nm && cu.2.2.2.all (fun alt => rf_run cl ct xs co cx code cuts sp.2.2.2 sp.1.2.2.2 sp.2.2.1.1.1.length sp.2.2.1.2.2.1.length sp.2.1.2.2.1 sp.2.1.2.2.2 (some cu.2.2.1) fuel true cu.1 alt)))))
set_option maxHeartbeats 1000000 in
theorem rf_method {l : Launch} {D : va_G} {cl : List vw_C} {ct : List (Nat → FieldType)} {tys : List (ClassId × FieldType)} {xt : Nat → Nat} {xs : List (List Int)} {N : (Nat → Prop) → State → Prop} {G Ts : List Cond} {CO : String} {co : Nat} {cx : rf_CX} {code : List (Nat × Instr × Nat)} {cuts : List rf_CUT} {nm fuel : Nat} {sp : rf_SP}
    (hy : plainName sp.1.1.cls = true) (hcode : ∀ q ∈ code, decode sp.1.2.1 q.1 = .ok q.2) (hchk : rf_chk cl ct xs co cx code cuts nm fuel sp = true) (halt : ∀ cu ∈ cuts, rf_ALT cu)
    (hctx : ∀ (p : Program) (e : Env) (s : State) (m : MethodId) (args : Array Value) (below : List Frame) (meth : Method) (c : Code) (A : Nat → Prop), p.tables.exec = Jvm.exec → c.code = sp.1.2.1 → c.maxLocals = sp.1.2.2.1 → s.vm.findClass sp.1.1.cls = some m.cls → (∀ w ∈ rf_cw sp :: G, w.before args s = true) → va_K D cl tys s → N A s → (∀ q, s.heap.size ≤ q → A q) → meth.name = sp.1.1.name →
      rf_CT p l e (rf_rm sp) s m args below meth c sp.1.2.1 sp.1.1.cls D cl ct tys xt xs N G Ts CO co A s.heap cx) : rf_OK l D cl tys xt N G sp := by
  intro ρp ws0 sz av hE hw ha hf
  simp only [rf_chk, Bool.and_eq_true] at hchk
  obtain ⟨hlens, hcats, hnL0, hrun, hcu⟩ := hchk
  refine Met.ofW (cc := sp.1.2.1) (maxL := sp.1.2.2.1) (ret := sp.1.2.2.2) hy rfl ?_
  intro p e s m args below meth c s₁ B hml hv
  obtain ⟨rfl, hsz, hP, hK, hD0, hNs⟩ := hv
  subst hsz
  have hx := B.exec
  have hb := B.bytes
  have hr := B.returns
  have hts := atoms_spec (ws := rf_cw sp :: G) B.pre
  have hown : s.vm.findClass sp.1.1.cls = some m.cls := findClass_of_methodNamed B.named
  have hlocks := B.notSynchronized
  have hin : meth.name = sp.1.1.name := (name_of_methodNamed B.named B.method).1
  have hD := hD0.self (sz := s.heap.size)
  have hnL := Nat.eq_of_beq_eq_true hnL0
  have hct := hctx p e s m av.toArray below meth c (va_A ws0 s.heap.size) hx hb hml hown hts hK hNs (fun q h => Or.inr h) hin
  have hn : ρp.length = sp.2.2.1.1.1.length := hE.2.1
  have hk : (ws0.map Prod.fst).length = sp.2.2.1.2.2.1.length := by rw [List.length_map, rf_L_len hw, List.length_map]
  -- the cuts, by their measures
  have hCK : ∀ vs : List Nat, vs.length = nm → ∀ cu ∈ cuts, rf_CK p l e (rf_rm sp) s m av.toArray below meth c (MQ below (rf_Qc D cl tys xt sp.2.2.2 ρp ws0 s.heap.size) av.toArray s sp.2.1.2.2.1 sp.2.1.2.2.2 (va_A ws0 s.heap.size)) D cl tys (va_A ws0 s.heap.size) s.heap xt sp.1.2.2.1 ρp (ws0.map Prod.fst) cu vs := by
    refine rf_lex_ind nm _ (fun vs hvs ih => ?_)
    intro cu hcu1 ρ ad ws H locs ls st hρ hmv hR
    obtain ⟨alt, alt1, alt2, l0, hR'⟩ := halt cu hcu1 _ _ _ _ _ _ _ _ _ _ _ _ _ _ _ hR
    have h1 := List.all_eq_true.mp hcu cu hcu1
    simp only [Bool.and_eq_true] at h1
    have h2 := List.all_eq_true.mp h1.2 alt alt1
    have := rf_run_spec (Q := MQ below (rf_Qc D cl tys xt sp.2.2.2 ρp ws0 s.heap.size) av.toArray s sp.2.1.2.2.1 sp.2.1.2.2.2 (va_A ws0 s.heap.size)) rfl rfl rfl hr hlocks hnL hct hcode hlens hn hk hρ (vm := vs) (fun c0 hc0 => by cases hc0; exact hmv)
      (fun cu' hcu' vs' hvs' hlex => ih vs' (by
        have h3 := List.all_eq_true.mp hcu cu' hcu'
        simp only [Bool.and_eq_true] at h3
        rw [hvs', Nat.eq_of_beq_eq_true h3.1]) (hlex _ rfl) cu' hcu') fuel true cu.1 alt h2 (ρ ++ l0) ad ws H locs ls st hR'
    rw [alt2] at this
    exact this
  have hgo := rf_run_spec (Q := MQ below (rf_Qc D cl tys xt sp.2.2.2 ρp ws0 s.heap.size) av.toArray s sp.2.1.2.2.1 sp.2.1.2.2.2 (va_A ws0 s.heap.size)) (cm := none) (ρm := ρp) rfl rfl rfl hr hlocks hnL hct hcode hlens hn hk ⟨[], by simp⟩ (vm := []) (fun c0 hc0 => by cases hc0)
    (fun cu' hcu' vs' hvs' _ => hCK vs' (by
      have h3 := List.all_eq_true.mp hcu cu' hcu'
      simp only [Bool.and_eq_true] at h3
      rw [hvs', Nat.eq_of_beq_eq_true h3.1]) cu' hcu') fuel false 0 (rf_entS sp) hrun
  have hl := lv_entry av (n := sp.1.2.2.1) (by rw [rf_sl_len, rf_cats_spec ha]; exact Nat.le_of_ble_eq_true hcats)
  rw [lg_entry_eq]
  exact hgo ρp (ws0.map Prod.fst) ws0 s.heap [] _ [] ⟨⟨⟨[], by simp⟩, [], by simp⟩, hE, rfl, hw, ⟨hP, hD, va_S.rf, hf⟩, ⟨_, hl, rf_largs_spec 0 ha⟩, trivial⟩
