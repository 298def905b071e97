/-! THE CHECKER, worlds within worlds; contracts -/
def rf_pk {α : Type} (ws : List α) (μ : List Nat) (ws' : List α) : Prop := rf_L (fun k q => ws[k]? = some q) μ ws'
theorem rf_pk_map {α : Type} {ws : List α} : ∀ {μ : List Nat} {ws' : List α}, rf_pk ws μ ws' → μ.map (fun i => ws[i]?) = ws'.map some
  | [], [], _ => rfl
  | k :: μ, q :: ws', h => by
    simp only [List.map_cons]
    rw [h.1, rf_pk_map h.2]
  | [], _ :: _, h => h.elim
  | _ :: _, [], h => h.elim
theorem rf_pk_fm {α : Type} {ws : List α} : ∀ {μ : List Nat} {ws' : List α}, rf_pk ws μ ws' → μ.filterMap (fun i => ws[i]?) = ws'
  | [], [], _ => rfl
  | k :: μ, q :: ws', h => by
    rw [List.filterMap_cons_some (f := fun i => ws[i]?) h.1, rf_pk_fm h.2]
  | [], _ :: _, h => h.elim
  | _ :: _, [], h => h.elim
theorem rf_pk_img {α β : Type} {f : α → β} {ws : List α} : ∀ {μ : List Nat} {ws' : List α}, rf_pk ws μ ws' → rf_pk (ws.map f) μ (ws'.map f)
  | [], [], _ => trivial
  | k :: μ, q :: ws', h => by
    refine ⟨?_, rf_pk_img h.2⟩
    show (ws.map f)[k]? = some (f q)
    have h1 : ws[k]? = some q := h.1
    rw [List.getElem?_map, h1]
    rfl
  | [], _ :: _, h => h.elim
  | _ :: _, [], h => h.elim
theorem rf_pk_ex {E : rf_EV} {σ : List (Nat × Int)} {μ0 : List Nat} {w : List rf_AC} {ρ ρ' : List Int} {ad ad' : List Nat} {xt : Nat → Nat} {tys : List (ClassId × FieldType)} {ws : va_W} (hw : rf_L (rf_cell ρ ad xt tys) w (ws.map Prod.snd)) : ∀ {μ : List Nat} {wP : List rf_AC}, rf_all2 (rf_mw E σ μ0 w) μ wP = true → ∃ ws', rf_pk ws μ ws'
  | [], [], _ => ⟨[], trivial⟩
  | k :: μ, a :: wP, h => by
    simp only [rf_all2, Bool.and_eq_true] at h
    obtain ⟨ws', hws⟩ := rf_pk_ex (ρ' := ρ') (ad' := ad') hw h.2
    have h1 := h.1
    unfold rf_mw at h1
    split at h1
    next b hb =>
      obtain ⟨a0, e0, q1, -, -⟩ := rf_ws_at hw rfl hb
      exact ⟨(a0, e0) :: ws', q1, hws⟩
    next => cases h1
  | [], _ :: _, h => by simp [rf_all2] at h
  | _ :: _, [], h => by simp [rf_all2] at h
theorem rf_pk_cell {E : rf_EV} {σ : List (Nat × Int)} {μ0 : List Nat} {w : List rf_AC} {ρ ρ' : List Int} {ad ad' : List Nat} {xt : Nat → Nat} {tys : List (ClassId × FieldType)} {ws : va_W} (hE : rf_okE ρ E) (hσ : rf_val ρ σ ρ') (hμ : rf_adr ad μ0 ad') (hw : rf_L (rf_cell ρ ad xt tys) w (ws.map Prod.snd)) : ∀ {μ : List Nat} {wP : List rf_AC} {ws' : va_W}, rf_all2 (rf_mw E σ μ0 w) μ wP = true → rf_pk ws μ ws' → rf_L (rf_cell ρ' ad' xt tys) wP (ws'.map Prod.snd)
  | [], [], [], _, _ => trivial
  | k :: μ, a :: wP, q :: ws', h, hk => by
    simp only [rf_all2, Bool.and_eq_true] at h
    have h1 := h.1
    unfold rf_mw at h1
    split at h1
    next b hb =>
      obtain ⟨a0, e0, q1, -, q3⟩ := rf_ws_at hw rfl hb
      have q4 : ws[k]? = some q := hk.1
      rw [q1] at q4
      cases q4
      exact ⟨rf_mc_spec hE hσ hμ h1 q3, rf_pk_cell hE hσ hμ hw h.2 hk.2⟩
    next => cases h1
  | [], _ :: _, _, h, _ => by simp [rf_all2] at h
  | _ :: _, [], _, h, _ => by simp [rf_all2] at h
  | [], [], _ :: _, _, hk => hk.elim
  | _ :: _, _ :: _, [], _, hk => hk.elim
/-- all of a picture but its locals: the pattern's ghosts, values, cells, facts are ours -/
def rf_ms (E : rf_EV) (σ : List (Nat × Int)) (μ : List Nat) (w : List rf_AC) (fs : List rf_FC) (EP : rf_EV) (wP : List rf_AC) (fP : List rf_FC) : Bool := rf_me E σ EP && (fP.all (fun f => fs.any (rf_mf E σ μ f) || rf_ent E σ fs f) && (rf_all2 (rf_mw E σ μ w) μ wP && va_nd μ))
theorem rf_ms_spec {D : va_G} {cl : List vw_C} {A : Nat → Prop} {H : Heap} {E EP : rf_EV} {σ : List (Nat × Int)} {μ : List Nat} {w wP : List rf_AC} {fs fP : List rf_FC} {ρ : List Int} {xt : Nat → Nat} {tys : List (ClassId × FieldType)} {ws : va_W} (h : rf_ms E σ μ w fs EP wP fP = true) (hE : rf_okE ρ E) (hw : rf_L (rf_cell ρ (ws.map Prod.fst) xt tys) w (ws.map Prod.snd)) (hP : va_P D cl ws H) (hD : va_D A ws) (hf : rf_facts xt ρ (ws.map Prod.snd) fs) :
    ∃ ρ' ws', rf_val ρ σ ρ' ∧ rf_pk ws μ ws' ∧ rf_adr (ws.map Prod.fst) μ (ws'.map Prod.fst) ∧ rf_okE ρ' EP ∧ rf_L (rf_cell ρ' (ws'.map Prod.fst) xt tys) wP (ws'.map Prod.snd) ∧ va_P D cl ws' H ∧ va_D A ws' ∧ rf_facts xt ρ' (ws'.map Prod.snd) fP ∧ va_nd μ = true := by
  simp only [rf_ms, Bool.and_eq_true] at h
  obtain ⟨h1, h4, h2, h3⟩ := h
  obtain ⟨ρ', hv, hE'⟩ := rf_me_spec hE h1
  obtain ⟨ws', hk⟩ := rf_pk_ex (ρ' := ρ') (ad' := []) hw h2
  have had : rf_adr (ws.map Prod.fst) μ (ws'.map Prod.fst) := rf_pk_img hk
  refine ⟨ρ', ws', hv, hk, had, hE', rf_pk_cell hE hv had hw h2 hk, hP.sub μ (rf_pk_fm hk), hD.sub μ h3 (rf_pk_map hk), fun f hf' => ?_, h3⟩
  have h5 := List.all_eq_true.mp h4 f hf'
  simp only [Bool.or_eq_true] at h5
  rcases h5 with h5 | h5
  · obtain ⟨g, g1, g2⟩ := List.any_eq_true.mp h5
    exact rf_mf_spec hE hv (rf_pk_img hk) g2 (hf g g1)
  · exact rf_ent_spec hE hv hf h5
/-! finding σ and μ -/
abbrev rf_FI : Type := List (Option (Nat × Int)) × List (Option Nat)
def rf_i1 (z : rf_FI) (a b : rf_AV) : rf_FI := match a.1 with
  | 2 => (match z.2[a.2.1]? with
    | some none => (z.1, z.2.set a.2.1 (some b.2.1))
    | _ => z)
  | 3 => z
  | 4 => z
  | _ => (match a.2.1 with
    | 0 => z
    | n + 1 => (match z.1[n]? with
      | some none => (z.1.set n (some (b.2.1, b.2.2 - a.2.2)), z.2)
      | _ => z))
def rf_i2 : rf_FI → List rf_AV → List rf_AV → rf_FI
  | z, a :: as, b :: bs => rf_i2 (rf_i1 z a b) as bs
  | z, _, _ => z
def rf_i3 (w : List rf_AC) : rf_FI → Nat → List rf_AC → rf_FI
  | z, _, [] => z
  | z, k, a :: wP => match a.1, z.2[k]? with
    | 1, _ => rf_i3 w z (k + 1) wP
    | _, some (some k') => (match w[k']? with
      | some b => rf_i3 w (rf_i2 z a.2.2.2.2 b.2.2.2.2) (k + 1) wP
      | none => z)
    | _, _ => z
def rf_i4 (fs : List rf_FC) : rf_FI → List rf_FC → rf_FI
  | z, [] => z
  | z, f :: fP => match fs.find? (fun g => Nat.beq f.1 g.1 && rf_all2 (fun k k' => match z.2[k]? with
      | some (some q) => Nat.beq q k'
      | _ => false) f.2.1 g.2.1) with
    | some g => rf_i4 fs (rf_i2 z f.2.2 g.2.2) fP
    | none => rf_i4 fs z fP
def rf_fin (z : rf_FI) : List (Nat × Int) × List Nat := (z.1.map (fun o => o.getD (0, 0)), z.2.map (fun o => o.getD 0))
/-- contracts: (name, code, locals, answer's type), (frames, locals' words, cells, slots), ahead: ghosts, arguments, world, facts; behind: ghosts, answer, world, facts -/
abbrev rf_PRE : Type := rf_EV × List rf_AV × List rf_AC × List rf_FC
abbrev rf_PO : Type := rf_EV × Option rf_AV × List rf_AC × List rf_FC
abbrev rf_SP : Type := (MethodName × ByteArray × Nat × Option FieldType) × (Nat × Nat × Nat × Nat) × rf_PRE × List rf_PO
def rf_rm (sp : rf_SP) : Room := { frames := sp.2.1.1, cells := sp.2.1.2.2.1, slots := sp.2.1.2.2.2, locals := sp.2.1.2.1 }
def rf_cw (sp : rf_SP) : Cond := Cond.code sp.1.1 sp.1.2.1 sp.1.2.2.1 sp.1.2.2.2
def rf_ret (ρ : List Int) (ad : List Nat) (xt : Nat → Nat) : Option rf_AV → Option Value → Prop
  | none, none => True
  | some a, some v => rf_gv ρ ad xt a v
  | _, _ => False
def rf_Pc (D : va_G) (cl : List vw_C) (tys : List (ClassId × FieldType)) (N : (Nat → Prop) → State → Prop) (ws : va_W) (sz : Nat) (U : State) : Prop := U.heap.size = sz ∧ va_P D cl ws U.heap ∧ va_K D cl tys U ∧ va_D (fun _ => True) ws ∧ N (va_A ws sz) U
/-- the answer, the ghosts that came, the world behind -/
def rf_Qb (D : va_G) (cl : List vw_C) (tys : List (ClassId × FieldType)) (xt : Nat → Nat) (posts : List rf_PO) (ρ : List Int) (ws : va_W) (sz : Nat) (v : Option Value) (t : State) : Prop :=
  ∃ po ∈ posts, ∃ (l : List Int) (w1 : va_W), rf_okE (ρ ++ l) po.1 ∧ (∃ l2, w1.map Prod.fst = ws.map Prod.fst ++ l2) ∧ rf_L (rf_cell (ρ ++ l) (w1.map Prod.fst) xt tys) po.2.2.1 (w1.map Prod.snd) ∧ rf_ret (ρ ++ l) (w1.map Prod.fst) xt po.2.1 v ∧ rf_facts xt (ρ ++ l) (w1.map Prod.snd) po.2.2.2 ∧ va_P D cl w1 t.heap ∧ va_K D cl tys t ∧ va_D (va_A ws sz) w1
def rf_Qc (D : va_G) (cl : List vw_C) (tys : List (ClassId × FieldType)) (xt : Nat → Nat) (posts : List rf_PO) (ρ : List Int) (ws : va_W) (sz : Nat) : Array Value → State → Outcome → State → Prop := fun _ st oc t => (∃ v, oc = .returned v ∧ rf_Qb D cl tys xt posts ρ ws sz v t) ∧ va_F (va_A ws sz) st t
def rf_OK (l : Launch) (D : va_G) (cl : List vw_C) (tys : List (ClassId × FieldType)) (xt : Nat → Nat) (N : (Nat → Prop) → State → Prop) (G : List Cond) (sp : rf_SP) : Prop :=
  ∀ (ρ : List Int) (ws : va_W) (sz : Nat) (av : List Value), rf_okE ρ sp.2.2.1.1 → rf_L (rf_cell ρ (ws.map Prod.fst) xt tys) sp.2.2.1.2.2.1 (ws.map Prod.snd) → rf_L (rf_gv ρ (ws.map Prod.fst) xt) sp.2.2.1.2.1 av → rf_facts xt ρ (ws.map Prod.snd) sp.2.2.1.2.2.2 →
    Met l sp.1.1 (rf_cw sp :: G) (rf_rm sp) (va_Pc av (rf_Pc D cl tys N ws sz)) (rf_Qc D cl tys xt sp.2.2.2 ρ ws sz) sp.2.1.2.2.1 sp.2.1.2.2.2 (va_A ws sz)
