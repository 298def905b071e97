/-! THE CHECKER, behind a call -/
def rf_put {α : Type} : List α → List Nat → List α → List α
  | ws, k :: μ, q :: vs => rf_put (ws.set k q) μ vs
  | ws, _, _ => ws
theorem rf_put_L {α β : Type} {R : α → β → Prop} : ∀ {μ : List Nat} {cs : List α} {vs : List β} {w : List α} {ws : List β}, rf_L R w ws → rf_L R cs vs → rf_L R (rf_put w μ cs) (rf_put ws μ vs)
  | [], _, _, _, _, h, _ => by simpa [rf_put] using h
  | _ :: _, [], [], _, _, h, _ => by simpa [rf_put] using h
  | k :: μ, c :: cs, v :: vs, _, _, h, h2 => by
    simp only [rf_put]
    exact rf_put_L (rf_L_set h2.1 h k) h2.2
  | _ :: _, [], _ :: _, _, _, _, h2 => h2.elim
  | _ :: _, _ :: _, [], _, _, _, h2 => h2.elim
theorem rf_put_map {α β : Type} {f : α → β} : ∀ {μ : List Nat} {vs ws : List α}, (rf_put ws μ vs).map f = rf_put (ws.map f) μ (vs.map f)
  | [], _, _ => by simp [rf_put]
  | _ :: _, [], _ => by simp [rf_put]
  | k :: μ, v :: vs, ws => by
    simp only [rf_put, List.map_cons]
    rw [rf_put_map, List.map_set]
theorem rf_set_self {α : Type} {ws : List α} {k : Nat} {q : α} (h : ws[k]? = some q) : ws.set k q = ws := by
  apply List.ext_getElem?
  intro i
  by_cases hi : i = k
  · subst hi
    rw [List.getElem?_set_self (List.getElem?_eq_some_iff.mp h).1, h]
  · rw [List.getElem?_set_ne (Ne.symm hi)]
theorem rf_put_same {α : Type} {ws : List α} : ∀ {μ : List Nat} {vs : List α}, rf_pk ws μ vs → rf_put ws μ vs = ws
  | [], [], _ => rfl
  | k :: μ, v :: vs, h => by
    simp only [rf_put]
    have h1 : ws[k]? = some v := h.1
    rw [rf_set_self h1]
    exact rf_put_same h.2
  | [], _ :: _, h => h.elim
  | _ :: _, [], h => h.elim
theorem rf_put_at {α : Type} : ∀ {μ : List Nat} {vs ws : List α} {i : Nat} {q : α}, (rf_put ws μ vs)[i]? = some q → (∃ j : Nat, μ[j]? = some i ∧ vs[j]? = some q) ∨ (ws[i]? = some q ∧ ∀ j : Nat, j < vs.length → μ[j]? ≠ some i)
  | [], vs, ws, i, q, h => Or.inr ⟨by simpa [rf_put] using h, fun j _ hj => by simp at hj⟩
  | _ :: _, [], ws, i, q, h => Or.inr ⟨by simpa [rf_put] using h, fun j hj => by simp at hj⟩
  | k :: μ, v :: vs, ws, i, q, h => by
    simp only [rf_put] at h
    rcases rf_put_at h with ⟨j, h1, h2⟩ | ⟨h1, h2⟩
    · exact Or.inl ⟨j + 1, by simpa using h1, by simpa using h2⟩
    · by_cases hi : i = k
      · subst hi
        have hl : i < ws.length := by
          have := (List.getElem?_eq_some_iff.mp h1).1
          simpa using this
        rw [List.getElem?_set_self hl] at h1
        cases h1
        exact Or.inl ⟨0, rfl, rfl⟩
      · rw [List.getElem?_set_ne (Ne.symm hi)] at h1
        refine Or.inr ⟨h1, fun j hj => ?_⟩
        match j, hj with
        | 0, _ => simpa using fun z => hi z.symm
        | j + 1, hj => simpa using h2 j (by simpa using hj)
theorem rf_put_off {α : Type} : ∀ {μ : List Nat} {vs ws : List α} {i : Nat}, μ.contains i = false → (rf_put ws μ vs)[i]? = ws[i]?
  | [], vs, ws, i, _ => by simp [rf_put]
  | _ :: _, [], ws, i, _ => by simp [rf_put]
  | k :: μ, v :: vs, ws, i, h => by
    simp only [rf_put]
    simp only [List.contains_cons, Bool.or_eq_false_iff] at h
    rw [rf_put_off h.2, List.getElem?_set_ne (by
      intro z
      subst z
      simp at h)]
theorem rf_put_len {α : Type} : ∀ {μ : List Nat} {vs ws : List α}, (rf_put ws μ vs).length = ws.length
  | [], _, _ => by simp [rf_put]
  | _ :: _, [], _ => by simp [rf_put]
  | k :: μ, v :: vs, ws => by
    simp only [rf_put]
    rw [rf_put_len, List.length_set]
/-- a picture of the callee's in the caller's words -/
def rf_sv (σ : List (Nat × Int)) (μ : List Nat) (a : rf_AV) : Option rf_AV := match a.1 with
  | 0 => (match rf_sg σ a.2.1 with
    | some q => some (0, q.1, q.2 + a.2.2)
    | none => none)
  | 1 => (match rf_sg σ a.2.1 with
    | some q => some (1, q.1, q.2 + a.2.2)
    | none => none)
  | 2 => (match μ[a.2.1]? with
    | some k => some (2, k, 0)
    | none => none)
  | 3 => some (3, 0, 0)
  | 4 => some (4, a.2.1, 0)
  | _ => none
theorem rf_sv_spec {ρ ρc : List Int} {ad adc : List Nat} {xt : Nat → Nat} {σ : List (Nat × Int)} (hσ : rf_val ρ σ ρc) {μ : List Nat} (hμ : rf_adr ad μ adc) {a b : rf_AV} {v : Value} (h : rf_sv σ μ a = some b) (hv : rf_gv ρc adc xt a v) : rf_gv ρ ad xt b v := by
  obtain ⟨t, g, d⟩ := a
  match t, h, hv with
  | 0, h, hv =>
    have h' : (match rf_sg σ g with
      | some q => some ((0, q.1, q.2 + d) : rf_AV)
      | none => none) = some b := h
    obtain ⟨x, rfl, r, hr, hx⟩ := hv
    cases hq : rf_sg σ g with
    | none => rw [hq] at h'; cases h'
    | some q =>
      rw [hq] at h'
      cases h'
      obtain ⟨y, y1, y2⟩ := rf_val_at hσ hq
      have hr' : rf_r ρc g = some r := hr
      rw [y2] at hr'
      cases hr'
      exact ⟨x, rfl, y, y1, by dsimp only at hx ⊢; omega⟩
  | 1, h, hv =>
    have h' : (match rf_sg σ g with
      | some q => some ((1, q.1, q.2 + d) : rf_AV)
      | none => none) = some b := h
    obtain ⟨x, rfl, r, hr, hx⟩ := hv
    cases hq : rf_sg σ g with
    | none => rw [hq] at h'; cases h'
    | some q =>
      rw [hq] at h'
      cases h'
      obtain ⟨y, y1, y2⟩ := rf_val_at hσ hq
      have hr' : rf_r ρc g = some r := hr
      rw [y2] at hr'
      cases hr'
      exact ⟨x, rfl, y, y1, by dsimp only at hx ⊢; omega⟩
  | 2, h, hv =>
    have h' : (match μ[g]? with
      | some k => some ((2, k, 0) : rf_AV)
      | none => none) = some b := h
    obtain ⟨q, q1, rfl⟩ := hv
    cases hk : μ[g]? with
    | none => rw [hk] at h'; cases h'
    | some k =>
      rw [hk] at h'
      cases h'
      obtain ⟨a, a1, a2⟩ := rf_L_get hμ hk
      have q1' : adc[g]? = some q := q1
      rw [a1] at q1'
      cases q1'
      exact ⟨q, a2, rfl⟩
  | 3, h, hv =>
    cases h
    exact hv
  | 4, h, hv =>
    cases h
    exact hv
  | 5, h, hv => cases h
  | n + 6, h, hv => exact hv.elim
def rf_om {α β : Type} (f : α → Option β) : List α → Option (List β)
  | [] => some []
  | a :: l => match f a, rf_om f l with
    | some b, some r => some (b :: r)
    | _, _ => none
theorem rf_om_L {α β γ : Type} {f : α → Option β} {R : α → γ → Prop} {R' : β → γ → Prop} (h : ∀ a b c, f a = some b → R a c → R' b c) : ∀ {as : List α} {bs : List β} {cs : List γ}, rf_om f as = some bs → rf_L R as cs → rf_L R' bs cs
  | [], bs, [], h1, _ => by cases h1; trivial
  | a :: as, bs, c :: cs, h1, h2 => by
    unfold rf_om at h1
    split at h1
    next b r hb hr =>
      cases h1
      exact ⟨h a b c hb h2.1, rf_om_L h hr h2.2⟩
    next => cases h1
  | [], _, _ :: _, _, h2 => h2.elim
  | _ :: _, _, [], _, h2 => h2.elim
theorem rf_om_at {α β : Type} {f : α → Option β} : ∀ {as : List α} {bs : List β}, rf_om f as = some bs → as.length = bs.length ∧ ∀ (i : Nat) (b : β), bs[i]? = some b → ∃ a, as[i]? = some a ∧ f a = some b
  | [], bs, h => by cases h; exact ⟨rfl, fun i b h => by simp at h⟩
  | a :: as, bs, h => by
    unfold rf_om at h
    split at h
    next b r hb hr =>
      cases h
      obtain ⟨h1, h2⟩ := rf_om_at hr
      refine ⟨by simp [h1], fun i x hx => ?_⟩
      match i, hx with
      | 0, hx =>
        simp only [List.getElem?_cons_zero, Option.some.injEq] at hx
        subst hx
        exact ⟨a, rfl, hb⟩
      | i + 1, hx =>
        simp only [List.getElem?_cons_succ] at hx ⊢
        exact h2 i x hx
    next => cases h
def rf_sc (σ : List (Nat × Int)) (μ : List Nat) (c : rf_AC) : Option rf_AC := match c.1 with
  | 1 => some c
  | 0 => (match rf_om (rf_sv σ μ) c.2.2.2.2 with
    | some l => some (0, c.2.1, c.2.2.1, c.2.2.2.1, l)
    | none => none)
  | 2 => (match rf_om (rf_sv σ μ) c.2.2.2.2 with
    | some l => some (2, c.2.1, c.2.2.1, c.2.2.2.1, l)
    | none => none)
  | 3 => (match rf_om (rf_sv σ μ) c.2.2.2.2 with
    | some l => some (3, c.2.1, c.2.2.1, c.2.2.2.1, l)
    | none => none)
  | _ => none
theorem rf_sc_spec {ρ ρc : List Int} {ad adc : List Nat} {xt : Nat → Nat} {tys : List (ClassId × FieldType)} {σ : List (Nat × Int)} (hσ : rf_val ρ σ ρc) {μ : List Nat} (hμ : rf_adr ad μ adc) {a b : rf_AC} {e : va_E} (h : rf_sc σ μ a = some b) (hv : rf_cell ρc adc xt tys a e) : rf_cell ρ ad xt tys b e := by
  obtain ⟨t, k, n, iv, avs⟩ := a
  match t, h, hv with
  | 0, h, hv =>
    have h' : (match rf_om (rf_sv σ μ) avs with
      | some l => some ((0, k, n, iv, l) : rf_AC)
      | none => none) = some b := h
    cases hl : rf_om (rf_sv σ μ) avs with
    | none => rw [hl] at h'; cases h'
    | some l =>
      rw [hl] at h'
      cases h'
      obtain ⟨fs, rfl, h2⟩ := hv
      exact ⟨fs, rfl, rf_om_L (R := rf_gv ρc adc xt) (R' := rf_gv ρ ad xt) (fun x y z p q => rf_sv_spec hσ hμ p q) hl h2⟩
  | 1, h, hv =>
    cases h
    exact hv
  | 2, h, hv =>
    have h' : (match rf_om (rf_sv σ μ) avs with
      | some l => some ((2, k, n, iv, l) : rf_AC)
      | none => none) = some b := h
    cases hl : rf_om (rf_sv σ μ) avs with
    | none => rw [hl] at h'; cases h'
    | some l =>
      rw [hl] at h'
      cases h'
      obtain ⟨cA, ty, t1, f, h5, h6⟩ := hv
      obtain ⟨q1, q2⟩ := rf_om_at hl
      refine ⟨cA, ty, t1, f, by dsimp only at h5 ⊢; rw [← q1]; exact h5, fun j x hj => ?_⟩
      obtain ⟨y, y1, y2⟩ := q2 j x hj
      exact rf_sv_spec hσ hμ y2 (h6 j y y1)
  | 3, h, hv =>
    have h' : (match rf_om (rf_sv σ μ) avs with
      | some l => some ((3, k, n, iv, l) : rf_AC)
      | none => none) = some b := h
    cases hl : rf_om (rf_sv σ μ) avs with
    | none => rw [hl] at h'; cases h'
    | some l =>
      rw [hl] at h'
      cases h'
      obtain ⟨cA, ty, t1, f, h5, h6⟩ := hv
      obtain ⟨q1, q2⟩ := rf_om_at hl
      refine ⟨cA, ty, t1, f, by dsimp only at h5 ⊢; rw [← q1]; exact h5, fun j x hj => ?_⟩
      obtain ⟨y, y1, y2⟩ := q2 j x hj
      exact rf_sv_spec hσ hμ y2 (h6 j y y1)
  | n + 4, h, hv => exact hv.elim
def rf_sn (σ : List (Nat × Int)) (a : rf_AV) : Option rf_AV := match rf_sg σ a.2.1 with
  | some q => some (a.1, q.1, q.2 + a.2.2)
  | none => none
def rf_sf (σ : List (Nat × Int)) (μ : List Nat) (f : rf_FC) : Option rf_FC := match rf_om (fun k => μ[k]?) f.2.1, rf_om (rf_sn σ) f.2.2 with
  | some ks, some as => some (f.1, ks, as)
  | _, _ => none
theorem rf_sf_spec {xt : Nat → Nat} {ρ ρc : List Int} {σ : List (Nat × Int)} (hσ : rf_val ρ σ ρc) {μ : List Nat} {es esc : List va_E} (hes : rf_pk es μ esc) {f g : rf_FC} (h : rf_sf σ μ f = some g) (hf : rf_fact xt ρc esc f) : rf_fact xt ρ es g := by
  unfold rf_sf at h
  split at h
  next ks as hk ha =>
    cases h
    obtain ⟨xs, x1, x2⟩ := hf
    refine ⟨xs, rf_om_L (R := rf_num ρc) (R' := rf_num ρ) (fun a b c p q => ?_) ha x1, ?_⟩
    · unfold rf_sn at p
      split at p
      next z hz =>
        cases p
        obtain ⟨y, y1, y2⟩ := rf_val_at hσ hz
        obtain ⟨r, r1, r2⟩ := q
        rw [y2] at r1
        cases r1
        exact ⟨y, y1, by dsimp only; omega⟩
      next => cases p
    · have e : ks.map (fun k => es[k]?) = f.2.1.map (fun k => esc[k]?) := by
        obtain ⟨hl, hat⟩ := rf_om_at hk
        apply List.ext_getElem?
        intro i
        rw [List.getElem?_map, List.getElem?_map]
        cases hi : ks[i]? with
        | none =>
          have : f.2.1[i]? = none := by
            rw [List.getElem?_eq_none_iff] at hi ⊢
            omega
          rw [this]
          rfl
        | some k =>
          obtain ⟨k0, e1, e2⟩ := hat i k hi
          rw [e1]
          obtain ⟨e0, q1, q2⟩ := rf_L_get hes e2
          show some (es[k]?) = some (esc[k0]?)
          rw [q1, q2]
      dsimp only
      rw [e]
      exact x2
  next => cases h
/-- the ghosts' bounds behind a call -/
def rf_cuts : rf_EV → List (Nat × Int) → List rf_GI → Option rf_EV
  | E, q :: σ, b :: bs => match rf_cut E q.1 (b.1 - q.2) (b.2.1 - q.2) (b.2.2 && decide (q.2 = 0)) with
    | some E' => rf_cuts E' σ bs
    | none => none
  | E, _, _ => some E
theorem rf_cut_len {E E' : rf_EV} {g : Nat} {lo hi : Int} {nz : Bool} (h : rf_cut E g lo hi nz = some E') : E'.1.length = E.1.length := by
  unfold rf_cut at h
  split at h
  · split at h
    · cases h; rfl
    · cases h
  · split at h
    · cases h
    · dsimp only at h
      rw [Option.ite_none_right_eq_some] at h
      rw [← Option.some.inj h.2]
      simp
theorem rf_cuts_spec {ρ : List Int} : ∀ {σ : List (Nat × Int)} {ρc : List Int} {bs : List rf_GI} {E : rf_EV}, rf_okE ρ E → rf_val ρ σ ρc → (∀ (i : Nat) (b : rf_GI), bs[i]? = some b → ∃ r, ρc[i]? = some r ∧ b.1 ≤ r ∧ r ≤ b.2.1 ∧ (b.2.2 = true → r ≠ 0)) → ∃ E', rf_cuts E σ bs = some E' ∧ rf_okE ρ E' ∧ E'.1.length = E.1.length
  | [], _, _, E, hE, _, _ => ⟨E, by simp [rf_cuts], hE, rfl⟩
  | q :: σ, [], _, _, _, hv, _ => hv.elim
  | q :: σ, r :: ρc, [], E, hE, _, _ => ⟨E, by simp [rf_cuts], hE, rfl⟩
  | q :: σ, r :: ρc, b :: bs, E, hE, hv, hb => by
    obtain ⟨r', e1, e2, e3, e4⟩ := hb 0 b rfl
    cases e1
    obtain ⟨x, x1, x2⟩ := hv.1
    obtain ⟨E1, q1, q2⟩ := rf_cut_spec hE (lo := b.1 - q.2) (hi := b.2.1 - q.2) (nz := b.2.2 && decide (q.2 = 0)) x1 (by omega) (by omega) (fun hh => by
      simp only [Bool.and_eq_true, decide_eq_true_eq] at hh
      have := e4 hh.1
      omega)
    obtain ⟨E2, p1, p2, p3⟩ := rf_cuts_spec q2 hv.2 (fun i b' hi => by
      have := hb (i + 1) b' (by simpa using hi)
      simpa using this)
    exact ⟨E2, by simp only [rf_cuts, q1]; exact p1, p2, p3.trans (rf_cut_len q1)⟩
theorem rf_okE_news {ρ l : List Int} {E : rf_EV} (hE : rf_okE ρ E) {gs : List rf_GI} (hl : l.length = gs.length) (h : ∀ (i : Nat) (b : rf_GI), gs[i]? = some b → ∃ r, l[i]? = some r ∧ b.1 ≤ r ∧ r ≤ b.2.1 ∧ (b.2.2 = true → r ≠ 0)) : rf_okE (ρ ++ l) (E.1 ++ gs, E.2) := by
  refine ⟨fun i b hi => ?_, by simp [hE.2.1, hl], fun c hc => ?_⟩
  · have hi' : (E.1 ++ gs)[i]? = some b := hi
    by_cases hlt : i < E.1.length
    · rw [List.getElem?_append_left hlt] at hi'
      obtain ⟨r, r1, r2⟩ := hE.1 i b hi'
      exact ⟨r, by rw [List.getElem?_append_left (by rw [hE.2.1]; exact hlt)]; exact r1, r2⟩
    · rw [List.getElem?_append_right (by omega)] at hi'
      obtain ⟨r, r1, r2⟩ := h _ b hi'
      exact ⟨r, by rw [List.getElem?_append_right (by rw [hE.2.1]; omega), hE.2.1]; exact r1, r2⟩
  · obtain ⟨a, b, a1, a2, a3⟩ := hE.2.2 c hc
    exact ⟨a, b, rf_r_app a1, rf_r_app a2, a3⟩
/-- the callee's 'at most' in the caller's words: none: a ghost is wanting; some none: it can't be -/
def rf_adds (σ : List (Nat × Int)) : rf_EV → List (Nat × Nat × Int) → Option (Option rf_EV)
  | E, [] => some (some E)
  | E, c :: cs => match rf_sg σ c.1, rf_sg σ c.2.1 with
    | some a, some b => (match rf_addc E a.1 b.1 (c.2.2 + b.2 - a.2) with
      | some E' => rf_adds σ E' cs
      | none => some none)
    | _, _ => none
theorem rf_adds_spec {ρ ρc : List Int} {σ : List (Nat × Int)} (hσ : rf_val ρ σ ρc) : ∀ {cs : List (Nat × Nat × Int)} {E : rf_EV} {r : Option rf_EV}, rf_okE ρ E → (∀ c ∈ cs, ∃ a b, rf_r ρc c.1 = some a ∧ rf_r ρc c.2.1 = some b ∧ a ≤ b + c.2.2) → rf_adds σ E cs = some r → ∃ E', r = some E' ∧ rf_okE ρ E'
  | [], E, r, hE, _, h => by
    cases h
    exact ⟨E, rfl, hE⟩
  | c :: cs, E, r, hE, hc, h => by
    unfold rf_adds at h
    split at h
    next a b ha hb =>
      obtain ⟨x, x1, x2⟩ := rf_val_at hσ ha
      obtain ⟨y, y1, y2⟩ := rf_val_at hσ hb
      obtain ⟨p, q, p1, p2, p3⟩ := hc c List.mem_cons_self
      rw [x2] at p1
      cases p1
      rw [y2] at p2
      cases p2
      obtain ⟨E1, e1, e2⟩ := rf_addc_spec hE x1 y1 (d := c.2.2 + b.2 - a.2) (by omega)
      rw [e1] at h
      exact rf_adds_spec hσ e2 (fun z hz => hc z (List.mem_cons_of_mem _ hz)) h
    next => cases h
