/-! THE CHECKER, one picture within another: the pattern's ghosts by σ (a ghost and an offset each), its cells by μ -/
def rf_sg (σ : List (Nat × Int)) : Nat → Option (Nat × Int)
  | 0 => some (0, 0)
  | n + 1 => σ[n]?
/-- the pattern's ghosts, read off -/
def rf_val (ρ : List Int) (σ : List (Nat × Int)) (ρ' : List Int) : Prop := rf_L (fun q r => ∃ x, rf_r ρ q.1 = some x ∧ r = x + q.2) σ ρ'
theorem rf_val_at {ρ ρ' : List Int} {σ : List (Nat × Int)} (h : rf_val ρ σ ρ') {g : Nat} {q : Nat × Int} (hq : rf_sg σ g = some q) : ∃ x, rf_r ρ q.1 = some x ∧ rf_r ρ' g = some (x + q.2) := by
  cases g with
  | zero =>
    have e : q = (0, 0) := (Option.some.inj hq).symm
    subst e
    exact ⟨0, rfl, rfl⟩
  | succ n =>
    obtain ⟨r, h1, x, h2, h3⟩ := rf_L_get h hq
    exact ⟨x, h2, by show ρ'[n]? = _; rw [h1, h3]⟩
theorem rf_val_ex {ρ : List Int} {σ : List (Nat × Int)} (h : ∀ q ∈ σ, ∃ x, rf_r ρ q.1 = some x) : ∃ ρ', rf_val ρ σ ρ' := by
  induction σ with
  | nil => exact ⟨[], trivial⟩
  | cons q σ ih =>
    obtain ⟨ρ', h'⟩ := ih (fun z hz => h z (List.mem_cons_of_mem _ hz))
    obtain ⟨x, hx⟩ := h q List.mem_cons_self
    exact ⟨(x + q.2) :: ρ', ⟨⟨x, hx, rfl⟩, h'⟩⟩
def rf_one (E : rf_EV) (g : Nat) (d : Int) : Option Int := match rf_gi E g with
  | some q => if q.1 = q.2.1 then some (q.1 + d) else none
  | none => none
theorem rf_one_spec {ρ : List Int} {E : rf_EV} (hE : rf_okE ρ E) {g : Nat} {d v r : Int} (h : rf_one E g d = some v) (hr : rf_r ρ g = some r) : r + d = v := by
  unfold rf_one at h
  split at h
  next q hq =>
    split at h
    next hz =>
      cases h
      have := rf_ivl hE hq hr
      omega
    next => cases h
  next => cases h
/-- are two numbers one -/
def rf_same (E : rf_EV) (g : Nat) (d : Int) (h : Nat) (e : Int) : Bool := (Nat.beq g h && decide (d = e)) || (match rf_one E g d, rf_one E h e with
  | some x, some y => decide (x = y)
  | _, _ => false)
theorem rf_same_spec {ρ : List Int} {E : rf_EV} (hE : rf_okE ρ E) {g h : Nat} {d e x y : Int} (hs : rf_same E g d h e = true) (hx : rf_r ρ g = some x) (hy : rf_r ρ h = some y) : x + d = y + e := by
  simp only [rf_same, Bool.or_eq_true, Bool.and_eq_true, decide_eq_true_eq] at hs
  rcases hs with ⟨h1, h2⟩ | hs
  · rw [Nat.eq_of_beq_eq_true h1, hy] at hx
    cases hx
    omega
  · split at hs
    next a b ha hb =>
      have q1 := rf_one_spec hE ha hx
      have q2 := rf_one_spec hE hb hy
      have := of_decide_eq_true hs
      omega
    next => cases hs
def rf_mnum (E : rf_EV) (σ : List (Nat × Int)) (a b : rf_AV) : Bool := match rf_sg σ a.2.1 with
  | some q => rf_same E q.1 (q.2 + a.2.2) b.2.1 b.2.2
  | none => false
/-- the pattern's value a is the value b -/
def rf_mv (E : rf_EV) (σ : List (Nat × Int)) (μ : List Nat) (a b : rf_AV) : Bool := Nat.beq a.1 b.1 && (match a.1 with
  | 0 => rf_mnum E σ a b
  | 1 => rf_mnum E σ a b
  | 2 => (match μ[a.2.1]? with
    | some k => Nat.beq k b.2.1
    | none => false)
  | 3 => true
  | 4 => Nat.beq a.2.1 b.2.1
  | 5 => rf_mnum E σ a b
  | _ => false)
theorem rf_mnum_spec {ρ ρ' : List Int} {E : rf_EV} (hE : rf_okE ρ E) {σ : List (Nat × Int)} (hσ : rf_val ρ σ ρ') {a b : rf_AV} {x : Int} (h : rf_mnum E σ a b = true) (hb : rf_num ρ b x) : rf_num ρ' a x := by
  unfold rf_mnum at h
  split at h
  next q hq =>
    obtain ⟨y, h1, h2⟩ := rf_val_at hσ hq
    obtain ⟨r, h3, h4⟩ := hb
    have := rf_same_spec hE h h1 h3
    exact ⟨_, h2, by omega⟩
  next => cases h
/-- the pattern's cells' addresses -/
def rf_adr (ad : List Nat) (μ ad' : List Nat) : Prop := rf_L (fun k a => ad[k]? = some a) μ ad'
theorem rf_mv_spec {ρ ρ' : List Int} {ad ad' : List Nat} {xt : Nat → Nat} {E : rf_EV} (hE : rf_okE ρ E) {σ : List (Nat × Int)} (hσ : rf_val ρ σ ρ') {μ : List Nat} (hμ : rf_adr ad μ ad') {a b : rf_AV} {v : Value} (h : rf_mv E σ μ a b = true) (hv : rf_gv ρ ad xt b v) : rf_gv ρ' ad' xt a v := by
  obtain ⟨t, g, d⟩ := a
  obtain ⟨t', g', d'⟩ := b
  simp only [rf_mv, Bool.and_eq_true] at h
  obtain ⟨h1, h2⟩ := h
  have e := Nat.eq_of_beq_eq_true h1
  subst e
  match t, hv, h2 with
  | 0, hv, h2 =>
    obtain ⟨x, rfl, hx⟩ := hv
    obtain ⟨r, q1, q2⟩ := rf_mnum_spec hE hσ (a := (0, g, d)) (b := (0, g', d')) h2 (x := x.toInt) hx
    exact ⟨x, rfl, r, q1, q2⟩
  | 1, hv, h2 =>
    obtain ⟨x, rfl, hx⟩ := hv
    obtain ⟨r, q1, q2⟩ := rf_mnum_spec hE hσ (a := (1, g, d)) (b := (1, g', d')) h2 (x := x.toInt) hx
    exact ⟨x, rfl, r, q1, q2⟩
  | 2, hv, h2 =>
    obtain ⟨q, q1, rfl⟩ := hv
    have h2' : (match μ[g]? with
      | some k => Nat.beq k g'
      | none => false) = true := h2
    cases hk : μ[g]? with
    | none => rw [hk] at h2'; cases h2'
    | some k =>
      rw [hk] at h2'
      obtain ⟨a, q3, q4⟩ := rf_L_get hμ hk
      rw [Nat.eq_of_beq_eq_true h2'] at q4
      have q1' : ad[g']? = some q := q1
      rw [q1'] at q4
      cases q4
      exact ⟨q, q3, rfl⟩
  | 3, hv, h2 => exact hv
  | 4, hv, h2 =>
    have e := Nat.eq_of_beq_eq_true h2
    try dsimp only at e
    subst e
    exact hv
  | 5, hv, h2 =>
    obtain ⟨h3, hx⟩ := hv
    obtain ⟨r, q1, q2⟩ := rf_mnum_spec hE hσ (a := (5, g, d)) (b := (5, g', d')) h2 (x := ((xt 12 : Nat) : Int)) hx
    exact ⟨h3, r, q1, q2⟩
  | n + 6, hv, h2 => exact hv.elim
def rf_all2 {α β : Type} (f : α → β → Bool) : List α → List β → Bool
  | [], [] => true
  | a :: as, b :: bs => f a b && rf_all2 f as bs
  | _, _ => false
theorem rf_all2_L {α β γ : Type} {f : α → β → Bool} {R : β → γ → Prop} {R' : α → γ → Prop} (h : ∀ a b c, f a b = true → R b c → R' a c) : ∀ {as : List α} {bs : List β} {cs : List γ}, rf_all2 f as bs = true → rf_L R bs cs → rf_L R' as cs
  | [], [], [], _, _ => trivial
  | a :: as, b :: bs, c :: cs, h1, h2 => by
    simp only [rf_all2, Bool.and_eq_true] at h1
    exact ⟨h a b c h1.1 h2.1, rf_all2_L h h1.2 h2.2⟩
  | [], [], _ :: _, _, h2 => h2.elim
  | _ :: _, [], _, h1, _ => by simp [rf_all2] at h1
  | [], _ :: _, _, h1, _ => by simp [rf_all2] at h1
  | _ :: _, _ :: _, [], _, h2 => h2.elim
theorem rf_all2_at {α β : Type} {f : α → β → Bool} : ∀ {as : List α} {bs : List β}, rf_all2 f as bs = true → as.length = bs.length ∧ ∀ (i : Nat) (a : α), as[i]? = some a → ∃ b, bs[i]? = some b ∧ f a b = true
  | [], [], _ => ⟨rfl, fun i a h => by simp at h⟩
  | a :: as, b :: bs, h => by
    simp only [rf_all2, Bool.and_eq_true] at h
    obtain ⟨h1, h2⟩ := rf_all2_at h.2
    refine ⟨by simp [h1], fun i x hx => ?_⟩
    match i, hx with
    | 0, hx =>
      simp only [List.getElem?_cons_zero, Option.some.injEq] at hx
      subst hx
      exact ⟨b, rfl, h.1⟩
    | i + 1, hx =>
      simp only [List.getElem?_cons_succ] at hx ⊢
      exact h2 i x hx
  | [], _ :: _, h => by simp [rf_all2] at h
  | _ :: _, [], h => by simp [rf_all2] at h
def rf_win (E : rf_EV) (lo hi : Int) (a : rf_AV) : Bool := Nat.beq a.1 0 && (match rf_gi E a.2.1 with
  | some q => decide (lo ≤ q.1 + a.2.2) && decide (q.2.1 + a.2.2 ≤ hi)
  | none => false)
/-- the pattern's cell a is the cell b -/
def rf_mc (E : rf_EV) (σ : List (Nat × Int)) (μ : List Nat) (a b : rf_AC) : Bool := match a.1, b.1 with
  | 0, 0 => Nat.beq a.2.1 b.2.1 && rf_all2 (rf_mv E σ μ) a.2.2.2.2 b.2.2.2.2
  | 1, 1 => Nat.beq a.2.1 b.2.1 && (Nat.beq a.2.2.1 b.2.2.1 && (decide (a.2.2.2.1.1 ≤ b.2.2.2.1.1) && decide (b.2.2.2.1.2 ≤ a.2.2.2.1.2)))
  | 1, 3 => Nat.beq a.2.1 b.2.1 && (!(Nat.beq a.2.1 1) && (Nat.beq a.2.2.1 b.2.2.2.2.length && b.2.2.2.2.all (rf_win E a.2.2.2.1.1 a.2.2.2.1.2)))
  | 2, 2 => Nat.beq a.2.1 b.2.1 && rf_all2 (rf_mv E σ μ) a.2.2.2.2 b.2.2.2.2
  | 3, 3 => Nat.beq a.2.1 b.2.1 && rf_all2 (rf_mv E σ μ) a.2.2.2.2 b.2.2.2.2
  | 3, 1 => Nat.beq a.2.1 b.2.1 && (!(Nat.beq a.2.1 1) && (Nat.beq b.2.2.1 a.2.2.2.2.length && (decide (b.2.2.2.1.1 = b.2.2.2.1.2) && a.2.2.2.2.all (fun v => Nat.beq v.1 0 && rf_mnum E σ v (0, 0, b.2.2.2.1.1)))))
  | _, _ => false
theorem rf_mc_spec {ρ ρ' : List Int} {ad ad' : List Nat} {xt : Nat → Nat} {tys : List (ClassId × FieldType)} {E : rf_EV} (hE : rf_okE ρ E) {σ : List (Nat × Int)} (hσ : rf_val ρ σ ρ') {μ : List Nat} (hμ : rf_adr ad μ ad') {a b : rf_AC} {e : va_E} (h : rf_mc E σ μ a b = true) (hv : rf_cell ρ ad xt tys b e) : rf_cell ρ' ad' xt tys a e := by
  obtain ⟨sa, ka, na, ia, la⟩ := a
  obtain ⟨sb, kb, nb, ib, lb⟩ := b
  unfold rf_mc at h
  split at h
  next e1 e2 =>
    dsimp only at e1 e2
    subst e1
    subst e2
    simp only [Bool.and_eq_true] at h
    obtain ⟨fs, rfl, h2⟩ := hv
    have e3 := Nat.eq_of_beq_eq_true h.1
    try dsimp only at e3
    subst e3
    exact ⟨fs, rfl, rf_all2_L (R := rf_gv ρ ad xt) (R' := rf_gv ρ' ad' xt) (fun x y z p q => rf_mv_spec hE hσ hμ p q) h.2 h2⟩
  next e1 e2 =>
    dsimp only at e1 e2
    subst e1
    subst e2
    simp only [Bool.and_eq_true, decide_eq_true_eq] at h
    obtain ⟨h1, h2, h3, h4⟩ := h
    have e3 := Nat.eq_of_beq_eq_true h1
    have e4 := Nat.eq_of_beq_eq_true h2
    try dsimp only at e3 e4
    subst e3
    subst e4
    obtain ⟨cA, ty, t1, h5⟩ := hv
    refine ⟨cA, ty, t1, ?_⟩
    rcases h5 with ⟨h5, f, h6, h7⟩ | ⟨h5, f, h6, h7⟩
    · exact Or.inl ⟨h5, f, h6, fun j hj => ⟨Int.le_trans h3 (h7 j hj).1, Int.le_trans (h7 j hj).2 h4⟩⟩
    · exact Or.inr ⟨h5, f, h6, fun j hj => ⟨Int.le_trans h3 (h7 j hj).1, Int.le_trans (h7 j hj).2 h4⟩⟩
  next e1 e2 =>
    dsimp only at e1 e2
    subst e1
    subst e2
    simp only [Bool.and_eq_true, Bool.not_eq_true'] at h
    obtain ⟨h1, h2, h3, h4⟩ := h
    have e3 := Nat.eq_of_beq_eq_true h1
    have e4 := Nat.eq_of_beq_eq_true h3
    try dsimp only at e3 e4
    subst e3
    subst e4
    obtain ⟨cA, ty, t1, f, h5, h6⟩ := hv
    refine ⟨cA, ty, t1, Or.inl ⟨(fun z => by dsimp only at z; rw [z] at h2; cases h2), f, h5, fun j hj => ?_⟩⟩
    dsimp only at hj
    have hj' : lb[j]? = some lb[j] := List.getElem?_eq_getElem hj
    have hw := List.all_eq_true.mp h4 _ (List.mem_of_getElem? hj')
    have hg := h6 j _ hj'
    generalize lb[j] = w at hw hg
    obtain ⟨tw, gw, dw⟩ := w
    simp only [rf_win, Bool.and_eq_true] at hw
    cases Nat.eq_of_beq_eq_true hw.1
    obtain ⟨x, ex, r, hr, hx⟩ := hg
    cases ex
    have h8 := hw.2
    split at h8
    next q hq =>
      simp only [Bool.and_eq_true, decide_eq_true_eq] at h8
      have := rf_ivl hE hq hr
      dsimp only at h8 hx ⊢
      omega
    next => cases h8
  next e1 e2 =>
    dsimp only at e1 e2
    subst e1
    subst e2
    simp only [Bool.and_eq_true] at h
    have e3 := Nat.eq_of_beq_eq_true h.1
    try dsimp only at e3
    subst e3
    obtain ⟨cA, ty, t1, f, h5, h6⟩ := hv
    obtain ⟨h7, h8⟩ := rf_all2_at h.2
    try dsimp only at h7 h8
    refine ⟨cA, ty, t1, f, by dsimp only; rw [h7]; exact h5, fun j x hj => ?_⟩
    obtain ⟨y, y1, y2⟩ := h8 j x hj
    exact rf_mv_spec hE hσ hμ y2 (h6 j y y1)
  next e1 e2 =>
    dsimp only at e1 e2
    subst e1
    subst e2
    simp only [Bool.and_eq_true] at h
    have e3 := Nat.eq_of_beq_eq_true h.1
    try dsimp only at e3
    subst e3
    obtain ⟨cA, ty, t1, f, h5, h6⟩ := hv
    obtain ⟨h7, h8⟩ := rf_all2_at h.2
    try dsimp only at h7 h8
    refine ⟨cA, ty, t1, f, by dsimp only; rw [h7]; exact h5, fun j x hj => ?_⟩
    obtain ⟨y, y1, y2⟩ := h8 j x hj
    exact rf_mv_spec hE hσ hμ y2 (h6 j y y1)
  next e1 e2 =>
    dsimp only at e1 e2
    subst e1
    subst e2
    simp only [Bool.and_eq_true, Bool.not_eq_true', decide_eq_true_eq] at h
    obtain ⟨h1, h2, h3, h4, h5⟩ := h
    have e3 := Nat.eq_of_beq_eq_true h1
    have e4 := Nat.eq_of_beq_eq_true h3
    try dsimp only at e3 e4 h2 h4 h5
    subst e3
    obtain ⟨cA, ty, t1, h6⟩ := hv
    rcases h6 with ⟨h6, f, h7, h8⟩ | ⟨h6, f, h7, h8⟩
    · dsimp only at h7 h8
      refine ⟨cA, ty, t1, f, by dsimp only; rw [← e4]; exact h7, fun j x hj => ?_⟩
      dsimp only at hj
      have hjl : j < nb := by
        rw [e4]
        exact (List.getElem?_eq_some_iff.mp hj).1
      have hx := List.all_eq_true.mp h5 x (List.mem_of_getElem? hj)
      simp only [Bool.and_eq_true] at hx
      have h9 := h8 j hjl
      obtain ⟨tx, gx, dx⟩ := x
      cases Nat.eq_of_beq_eq_true hx.1
      obtain ⟨r, r1, r2⟩ := rf_mnum_spec hE hσ (a := (0, gx, dx)) (b := (0, 0, ib.1)) hx.2 (x := (f j).toInt) ⟨0, rfl, by dsimp only; omega⟩
      exact ⟨f j, rfl, r, r1, r2⟩
    · dsimp only at h6
      rw [h6] at h2
      cases h2
  next => cases h
/-- ghosts: the pattern's bounds hold -/
def rf_mg (E : rf_EV) (q : Nat × Int) (b : rf_GI) : Bool := match rf_gi E q.1 with
  | some z => decide (b.1 ≤ z.1 + q.2) && (decide (z.2.1 + q.2 ≤ b.2.1) && (!b.2.2 || rf_nz z q.2))
  | none => false
def rf_me (E : rf_EV) (σ : List (Nat × Int)) (P : rf_EV) : Bool := rf_all2 (rf_mg E) σ P.1 && P.2.all (fun c => match rf_sg σ c.1, rf_sg σ c.2.1 with
  | some a, some b => rf_leq E (0, a.1, a.2) (0, b.1, b.2 + c.2.2)
  | _, _ => false)
theorem rf_me_spec {ρ : List Int} {E : rf_EV} (hE : rf_okE ρ E) {σ : List (Nat × Int)} {P : rf_EV} (h : rf_me E σ P = true) : ∃ ρ', rf_val ρ σ ρ' ∧ rf_okE ρ' P := by
  simp only [rf_me, Bool.and_eq_true] at h
  obtain ⟨h1, h2⟩ := h
  obtain ⟨hl, ha⟩ := rf_all2_at h1
  have hex : ∀ q ∈ σ, ∃ x, rf_r ρ q.1 = some x := by
    intro q hq
    obtain ⟨i, hi⟩ := List.getElem?_of_mem hq
    obtain ⟨b, -, hb⟩ := ha i q hi
    unfold rf_mg at hb
    split at hb
    next z hz =>
      obtain ⟨r, hr, -⟩ := rf_gi_spec hE hz
      exact ⟨r, hr⟩
    next => cases hb
  obtain ⟨ρ', hv⟩ := rf_val_ex hex
  refine ⟨ρ', hv, fun i b hi => ?_, by rw [← rf_L_len hv]; exact hl, fun c hc => ?_⟩
  · have hil : i < σ.length := by rw [hl]; exact (List.getElem?_eq_some_iff.mp hi).1
    have hq : σ[i]? = some σ[i] := List.getElem?_eq_getElem hil
    generalize σ[i] = q at hq
    obtain ⟨b', e1, hb⟩ := ha i q hq
    rw [hi] at e1
    cases e1
    obtain ⟨r', e2, x, e3, e4⟩ := rf_L_get hv hq
    unfold rf_mg at hb
    split at hb
    next z hz =>
      simp only [Bool.and_eq_true, decide_eq_true_eq, Bool.or_eq_true, Bool.not_eq_true'] at hb
      have iv := rf_ivl hE hz e3
      refine ⟨r', e2, by omega, by omega, fun hn => ?_⟩
      rcases hb.2.2 with hb3 | hb3
      · rw [hn] at hb3; cases hb3
      · rw [e4]; exact rf_nz_spec hE hz e3 hb3
    next => cases hb
  · have hcc := List.all_eq_true.mp h2 c hc
    split at hcc
    next a b ha' hb' =>
      obtain ⟨x, x1, x2⟩ := rf_val_at hv ha'
      obtain ⟨y, y1, y2⟩ := rf_val_at hv hb'
      have := rf_leq_spec hE (a := (0, a.1, a.2)) (b := (0, b.1, b.2 + c.2.2)) (x := x + a.2) (y := y + (b.2 + c.2.2)) ⟨x, x1, rfl⟩ ⟨y, y1, rfl⟩ hcc
      exact ⟨_, _, x2, y2, by omega⟩
    next => cases hcc
/-- facts: each of the pattern's is one of ours -/
def rf_mf (E : rf_EV) (σ : List (Nat × Int)) (μ : List Nat) (f g : rf_FC) : Bool := Nat.beq f.1 g.1 && (rf_all2 (fun k k' => match μ[k]? with
  | some z => Nat.beq z k'
  | none => false) f.2.1 g.2.1 && rf_all2 (rf_mnum E σ) f.2.2 g.2.2)
theorem rf_mf_spec {xt : Nat → Nat} {ρ ρ' : List Int} {E : rf_EV} (hE : rf_okE ρ E) {σ : List (Nat × Int)} (hσ : rf_val ρ σ ρ') {μ : List Nat} {es es' : List va_E} (hes : rf_L (fun k e => es[k]? = some e) μ es') {f g : rf_FC} (h : rf_mf E σ μ f g = true) (hg : rf_fact xt ρ es g) : rf_fact xt ρ' es' f := by
  simp only [rf_mf, Bool.and_eq_true] at h
  obtain ⟨h1, h2, h3⟩ := h
  obtain ⟨xs, x1, x2⟩ := hg
  refine ⟨xs, rf_all2_L (R := rf_num ρ) (R' := rf_num ρ') (fun a b c p q => rf_mnum_spec hE hσ p q) h3 x1, ?_⟩
  rw [Nat.eq_of_beq_eq_true h1]
  have e : f.2.1.map (fun k => es'[k]?) = g.2.1.map (fun k => es[k]?) := by
    obtain ⟨hl, ha⟩ := rf_all2_at h2
    apply List.ext_getElem?
    intro i
    rw [List.getElem?_map, List.getElem?_map]
    cases hi : f.2.1[i]? with
    | none =>
      have : g.2.1[i]? = none := by
        rw [List.getElem?_eq_none_iff] at hi ⊢
        omega
      rw [this]
      rfl
    | some k =>
      obtain ⟨k', e1, e2⟩ := ha i k hi
      rw [e1]
      split at e2
      next z hz =>
        obtain ⟨e0, q1, q2⟩ := rf_L_get hes hz
        have hzk := Nat.eq_of_beq_eq_true e2
        show some (es'[k]?) = some (es[k']?)
        rw [q1, ← hzk, q2]
      next => cases e2
  rw [e]
  exact x2
/-- x + y ≤ z, by the bounds or by a fact told -/
def rf_e9 (E : rf_EV) (fs : List rf_FC) (x y z : rf_AV) : Bool := (match rf_gi E x.2.1, rf_gi E y.2.1, rf_gi E z.2.1 with
  | some a, some b, some c => decide (a.2.1 + x.2.2 + (b.2.1 + y.2.2) ≤ c.1 + z.2.2)
  | _, _, _ => false) || fs.any (fun g => match g with
  | (9, [], [x', y', z']) => Nat.beq x.2.1 x'.2.1 && (Nat.beq y.2.1 y'.2.1 && (Nat.beq z.2.1 z'.2.1 && decide (x.2.2 + y.2.2 - z.2.2 ≤ x'.2.2 + y'.2.2 - z'.2.2)))
  | _ => false)
theorem rf_e9_spec {xt : Nat → Nat} {ρ : List Int} {E : rf_EV} (hE : rf_okE ρ E) {es : List va_E} {fs : List rf_FC} (hf : rf_facts xt ρ es fs) {x y z : rf_AV} {a b c : Int} (hx : rf_num ρ x a) (hy : rf_num ρ y b) (hz : rf_num ρ z c) (h : rf_e9 E fs x y z = true) : a + b ≤ c := by
  simp only [rf_e9, Bool.or_eq_true] at h
  obtain ⟨r1, p1, p2⟩ := hx
  obtain ⟨r2, p3, p4⟩ := hy
  obtain ⟨r3, p5, p6⟩ := hz
  rcases h with h | h
  · split at h
    next q q' q'' e1 e2 e3 =>
      have i1 := rf_ivl hE e1 p1
      have i2 := rf_ivl hE e2 p3
      have i3 := rf_ivl hE e3 p5
      have := of_decide_eq_true h
      omega
    next => cases h
  · obtain ⟨g, g1, g2⟩ := List.any_eq_true.mp h
    obtain ⟨xs, k1, k2⟩ := hf g g1
    split at g2
    next x' y' z' =>
      simp only [Bool.and_eq_true, decide_eq_true_eq] at g2
      obtain ⟨c1, c2, c3, c4⟩ := g2
      match xs, k1 with
      | [a', b', c'], k1 =>
        obtain ⟨⟨s1, t1, t2⟩, ⟨s2, t3, t4⟩, ⟨s3, t5, t6⟩, -⟩ := k1
        rw [← Nat.eq_of_beq_eq_true c1, p1] at t1
        rw [← Nat.eq_of_beq_eq_true c2, p3] at t3
        rw [← Nat.eq_of_beq_eq_true c3, p5] at t5
        cases t1
        cases t3
        cases t5
        have k3 : a' + b' ≤ c' := k2
        omega
    next => cases g2
/-- a fact of the pattern that holds without being told -/
def rf_ent (E : rf_EV) (σ : List (Nat × Int)) (fs : List rf_FC) (f : rf_FC) : Bool := match f with
  | (9, [], [x, y, z]) => (match rf_sg σ x.2.1, rf_sg σ y.2.1, rf_sg σ z.2.1 with
    | some a, some b, some c => rf_e9 E fs (0, a.1, a.2 + x.2.2) (0, b.1, b.2 + y.2.2) (0, c.1, c.2 + z.2.2)
    | _, _, _ => false)
  | (99, [], [x]) => Nat.beq x.2.1 0
  | _ => false
theorem rf_ent_spec {xt : Nat → Nat} {ρ ρ' : List Int} {E : rf_EV} (hE : rf_okE ρ E) {σ : List (Nat × Int)} (hσ : rf_val ρ σ ρ') {es es' : List va_E} {fs : List rf_FC} (hf : rf_facts xt ρ es fs) {f : rf_FC} (h : rf_ent E σ fs f = true) : rf_fact xt ρ' es' f := by
  unfold rf_ent at h
  split at h
  next x y z =>
    split at h
    next a b c e1 e2 e3 =>
      obtain ⟨u1, v1, w1⟩ := rf_val_at hσ e1
      obtain ⟨u2, v2, w2⟩ := rf_val_at hσ e2
      obtain ⟨u3, v3, w3⟩ := rf_val_at hσ e3
      have k := rf_e9_spec hE hf (a := u1 + (a.2 + x.2.2)) (b := u2 + (b.2 + y.2.2)) (c := u3 + (c.2 + z.2.2)) ⟨u1, v1, rfl⟩ ⟨u2, v2, rfl⟩ ⟨u3, v3, rfl⟩ h
      exact ⟨[u1 + a.2 + x.2.2, u2 + b.2 + y.2.2, u3 + c.2 + z.2.2], ⟨⟨_, w1, rfl⟩, ⟨_, w2, rfl⟩, ⟨_, w3, rfl⟩, trivial⟩, by show u1 + a.2 + x.2.2 + (u2 + b.2 + y.2.2) ≤ u3 + c.2 + z.2.2; omega⟩
    next => cases h
  next x => exact ⟨[0 + x.2.2], ⟨⟨0, by rw [Nat.eq_of_beq_eq_true h]; rfl, rfl⟩, trivial⟩, True.intro⟩
  next => cases h
/-- cells: no cell twice -/
def rf_mw (E : rf_EV) (σ : List (Nat × Int)) (μ : List Nat) (w : List rf_AC) (k : Nat) (a : rf_AC) : Bool := match w[k]? with
  | some b => rf_mc E σ μ a b
  | none => false
