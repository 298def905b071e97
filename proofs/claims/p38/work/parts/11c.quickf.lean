/-! THE CHECKER, quicker, behind a call: with fingers -/
noncomputable def qf_ap {α : Type} (l r : List α) : List α := List.rec (motive := fun _ => List α) l (fun _ _ _ => qj_app l r) r
theorem qj_app_eq {α : Type} : ∀ (l r : List α), qj_app l r = l ++ r
  | [], _ => rfl
  | a :: l, r => congrArg (List.cons a) (qj_app_eq l r)
theorem qf_ap_eq {α : Type} (l r : List α) : qf_ap l r = l ++ r := by
  cases r with
  | nil => exact (List.append_nil l).symm
  | cons a r => exact qj_app_eq l (a :: r)
theorem qf_at_any {α β : Type} {P : β → Prop} {l : List α} {S : List (List α)} {c : Nat} {s : List α} {i : Nat} {k : Option α → Nat → List α → β} (h : ∀ (o : Option α) (c' : Nat) (s' : List α), P (k o c' s')) : P (qf_at l S c s i k) := by
  unfold qf_at
  generalize (Bool.rec (motive := fun _ => List α) (qf_suf l S i) s (Nat.beq i c) : List α) = t
  cases t with
  | nil => exact h none _ _
  | cons a t => exact h (some a) _ _
/-- the ghosts' bounds behind a call: no cut where none is needed (c, s: a finger among the ghosts) -/
noncomputable def qf_cuts (l : List rf_GI) (S : List (List rf_GI)) (σ : List (Nat × Int)) : List rf_GI → Nat → List rf_GI → rf_EV → Option rf_EV :=
  List.rec (motive := fun _ => List rf_GI → Nat → List rf_GI → rf_EV → Option rf_EV)
    (fun _ _ _ E => some E)
    (fun q _ ih bs c s E => List.rec (motive := fun _ => Option rf_EV) (some E) (fun b bt _ =>
      qf_at l S c s q.1 (fun o c' s' => Bool.rec (motive := fun _ => Option rf_EV)
        (Option.rec (motive := fun _ => Option rf_EV) none (fun E' => ih bt c' s' E') (rf_cut E q.1 (b.1 - q.2) (b.2.1 - q.2) (b.2.2 && decide (q.2 = 0))))
        (ih bt c' s' E)
        (Option.rec (motive := fun _ => Bool) false (fun z => Bool.rec (motive := fun _ => Bool) false (Bool.rec (motive := fun _ => Bool) false (Bool.rec (motive := fun _ => Bool) true false b.2.2) (qi_le z.2.1 (qi_sb b.2.1 q.2))) (qi_le (qi_sb b.1 q.2) z.1)) o))) bs) σ
theorem qf_cuts_spec {ρ : List Int} {l : List rf_GI} {S : List (List rf_GI)} : ∀ {σ : List (Nat × Int)} {ρc : List Int} {bs : List rf_GI} {E : rf_EV} {c : Nat} {s : List rf_GI}, rf_okE ρ E → rf_val ρ σ ρc → (∀ (i : Nat) (b : rf_GI), bs[i]? = some b → ∃ r, ρc[i]? = some r ∧ b.1 ≤ r ∧ r ≤ b.2.1 ∧ (b.2.2 = true → r ≠ 0)) → ∃ E', qf_cuts l S σ bs c s E = some E' ∧ rf_okE ρ E' ∧ E'.1.length = E.1.length
  | [], _, _, E, _, _, hE, _, _ => ⟨E, rfl, hE, rfl⟩
  | q :: σ, [], _, _, _, _, _, hv, _ => hv.elim
  | q :: σ, r :: ρc, [], E, _, _, hE, _, _ => ⟨E, rfl, hE, rfl⟩
  | q :: σ, r :: ρc, b :: bs, E, c, s, hE, hv, hb => by
    have hb' : ∀ (i : Nat) (b' : rf_GI), bs[i]? = some b' → ∃ r, ρc[i]? = some r ∧ b'.1 ≤ r ∧ r ≤ b'.2.1 ∧ (b'.2.2 = true → r ≠ 0) := fun i b' hi => by
      have := hb (i + 1) b' (by simpa using hi)
      simpa using this
    obtain ⟨r', e1, e2, e3, e4⟩ := hb 0 b rfl
    cases e1
    obtain ⟨x, x1, x2⟩ := hv.1
    obtain ⟨E1, q1, q2⟩ := rf_cut_spec hE (lo := b.1 - q.2) (hi := b.2.1 - q.2) (nz := b.2.2 && decide (q.2 = 0)) x1 (by omega) (by omega) (fun hh => by
      simp only [Bool.and_eq_true, decide_eq_true_eq] at hh
      have := e4 hh.1
      omega)
    have key : ∀ (o : Option rf_GI) (c' : Nat) (s' : List rf_GI), ∃ E', (Bool.rec (motive := fun _ => Option rf_EV)
        (Option.rec (motive := fun _ => Option rf_EV) none (fun E' => qf_cuts l S σ bs c' s' E') (rf_cut E q.1 (b.1 - q.2) (b.2.1 - q.2) (b.2.2 && decide (q.2 = 0))))
        (qf_cuts l S σ bs c' s' E)
        (Option.rec (motive := fun _ => Bool) false (fun z => Bool.rec (motive := fun _ => Bool) false (Bool.rec (motive := fun _ => Bool) false (Bool.rec (motive := fun _ => Bool) true false b.2.2) (qi_le z.2.1 (qi_sb b.2.1 q.2))) (qi_le (qi_sb b.1 q.2) z.1)) o) : Option rf_EV) = some E' ∧ rf_okE ρ E' ∧ E'.1.length = E.1.length := by
      intro o c' s'
      generalize (Option.rec (motive := fun _ => Bool) false (fun z => Bool.rec (motive := fun _ => Bool) false (Bool.rec (motive := fun _ => Bool) false (Bool.rec (motive := fun _ => Bool) true false b.2.2) (qi_le z.2.1 (qi_sb b.2.1 q.2))) (qi_le (qi_sb b.1 q.2) z.1)) o : Bool) = t
      cases t with
      | true => exact qf_cuts_spec hE hv.2 hb'
      | false =>
        rw [q1]
        obtain ⟨E2, p1, p2, p3⟩ := qf_cuts_spec (l := l) (S := S) (c := c') (s := s') q2 hv.2 hb'
        exact ⟨E2, p1, p2, p3.trans (rf_cut_len q1)⟩
    exact qf_at_any (P := fun r => ∃ E', r = some E' ∧ rf_okE ρ E' ∧ E'.1.length = E.1.length) (l := l) (S := S) (c := c) (s := s) (i := q.1) key
/-- a value in the caller's words -/
noncomputable def qf_sv {β : Type} (σ : List (Nat × Int)) (Z : List (List (Nat × Int))) (μ : List Nat) (M : List (List Nat)) (a : rf_AV) (c : Nat) (s : List (Nat × Int)) (m : Nat) (u : List Nat) (k : rf_AV → Nat → List (Nat × Int) → Nat → List Nat → β) (z : β) : β :=
  Bool.rec (motive := fun _ => β)
    (Bool.rec (motive := fun _ => β)
      (Bool.rec (motive := fun _ => β) (Bool.rec (motive := fun _ => β) z (k (4, a.2.1, 0) c s m u) (Nat.beq a.1 4)) (k (3, 0, 0) c s m u) (Nat.beq a.1 3))
      (qf_at μ M m u a.2.1 (fun o m' u' => Option.rec (motive := fun _ => β) z (fun q => k (2, q, 0) c s m' u') o))
      (Nat.beq a.1 2))
    (Bool.rec (motive := fun _ => β)
      (qf_at σ Z c s a.2.1 (fun o c' s' => Option.rec (motive := fun _ => β) z (fun q => k (a.1, q.1, qi_ad q.2 a.2.2) c' s' m u) o))
      (k (a.1, 0, a.2.2) c s m u)
      (Nat.beq a.2.1 0))
    (Nat.ble a.1 1)
theorem qf_sv_eq {β : Type} {σ : List (Nat × Int)} {μ : List Nat} {f1 f2 : Nat} {a : rf_AV} {c : Nat} {s : List (Nat × Int)} {m : Nat} {u : List Nat} (hs : s = ((0, 0) :: σ).drop c) (hu : u = μ.drop m) (k : rf_AV → Nat → List (Nat × Int) → Nat → List Nat → β) (z : β) :
    ∃ c' s' m' u', s' = ((0, 0) :: σ).drop c' ∧ u' = μ.drop m' ∧ qf_sv ((0, 0) :: σ) (qk_sf f1 ((0, 0) :: σ)) μ (qk_sf f2 μ) a c s m u k z = (match rf_sv σ μ a with
      | some v => k v c' s' m' u'
      | none => z) := by
  obtain ⟨t, g, d⟩ := a
  have num : ∀ t : Nat, (∀ (b : Nat) (e : Int), rf_sv σ μ (t, b, e) = (match rf_sg σ b with
      | some q => some (t, q.1, q.2 + e)
      | none => none)) → Nat.ble t 1 = true → ∃ c' s' m' u', s' = ((0, 0) :: σ).drop c' ∧ u' = μ.drop m' ∧ qf_sv ((0, 0) :: σ) (qk_sf f1 ((0, 0) :: σ)) μ (qk_sf f2 μ) (t, g, d) c s m u k z = (match rf_sv σ μ (t, g, d) with
      | some v => k v c' s' m' u'
      | none => z) := by
    intro t ht h1
    unfold qf_sv
    dsimp only
    rw [h1, ht]
    cases h4 : Nat.beq g 0 with
    | true =>
      have e4 := Nat.eq_of_beq_eq_true h4
      subst e4
      refine ⟨c, s, m, u, hs, hu, ?_⟩
      show k (t, 0, d) c s m u = k (t, 0, 0 + d) c s m u
      rw [Int.zero_add]
    | false =>
      obtain ⟨c', s', hs', e⟩ := qf_at_eq (f := f1) hs g (fun o c' s' => Option.rec (motive := fun _ => β) z (fun q => k (t, q.1, qi_ad q.2 d) c' s' m u) o)
      refine ⟨c', s', m, u, hs', hu, e.trans ?_⟩
      rw [qf_sg0]
      cases hq : rf_sg σ g with
      | none => rfl
      | some q =>
        show k (t, q.1, qi_ad q.2 d) c' s' m u = k (t, q.1, q.2 + d) c' s' m u
        rw [qi_ad_eq]
  match t with
  | 0 => exact num 0 (fun _ _ => rfl) rfl
  | 1 => exact num 1 (fun _ _ => rfl) rfl
  | 2 =>
    obtain ⟨m', u', hu', e⟩ := qf_at_eq (f := f2) hu g (fun o m' u' => Option.rec (motive := fun _ => β) z (fun q => k (2, q, 0) c s m' u') o)
    refine ⟨c, s, m', u', hs, hu', e.trans ?_⟩
    show _ = (match (match μ[g]? with
      | some k => some ((2, k, 0) : rf_AV)
      | none => none) with
      | some v => k v c s m' u'
      | none => z)
    cases μ[g]? with
    | none => rfl
    | some q => rfl
  | 3 => exact ⟨c, s, m, u, hs, hu, rfl⟩
  | 4 => exact ⟨c, s, m, u, hs, hu, rfl⟩
  | n + 5 => exact ⟨c, s, m, u, hs, hu, rfl⟩
noncomputable def qf_svs {β : Type} (σ : List (Nat × Int)) (Z : List (List (Nat × Int))) (μ : List Nat) (M : List (List Nat)) (z : β) (as : List rf_AV) : Nat → List (Nat × Int) → Nat → List Nat → (List rf_AV → Nat → List (Nat × Int) → Nat → List Nat → β) → β :=
  List.rec (motive := fun _ => Nat → List (Nat × Int) → Nat → List Nat → (List rf_AV → Nat → List (Nat × Int) → Nat → List Nat → β) → β)
    (fun c s m u k => k [] c s m u)
    (fun a _ ih c s m u k => qf_sv σ Z μ M a c s m u (fun v c s m u => ih c s m u (fun l c s m u => k (v :: l) c s m u)) z) as
theorem qf_svs_eq {β : Type} {σ : List (Nat × Int)} {μ : List Nat} {f1 f2 : Nat} {z : β} : ∀ {as : List rf_AV} {c : Nat} {s : List (Nat × Int)} {m : Nat} {u : List Nat}, s = ((0, 0) :: σ).drop c → u = μ.drop m → ∀ (k : List rf_AV → Nat → List (Nat × Int) → Nat → List Nat → β),
    ∃ c' s' m' u', s' = ((0, 0) :: σ).drop c' ∧ u' = μ.drop m' ∧ qf_svs ((0, 0) :: σ) (qk_sf f1 ((0, 0) :: σ)) μ (qk_sf f2 μ) z as c s m u k = (match rf_om (rf_sv σ μ) as with
      | some l => k l c' s' m' u'
      | none => z)
  | [], c, s, m, u, hs, hu, k => ⟨c, s, m, u, hs, hu, rfl⟩
  | a :: as, c, s, m, u, hs, hu, k => by
    obtain ⟨c1, s1, m1, u1, hs1, hu1, e1⟩ := qf_sv_eq (f1 := f1) (f2 := f2) (a := a) hs hu (fun v c s m u => qf_svs ((0, 0) :: σ) (qk_sf f1 ((0, 0) :: σ)) μ (qk_sf f2 μ) z as c s m u (fun l c s m u => k (v :: l) c s m u)) z
    have e1' : qf_svs ((0, 0) :: σ) (qk_sf f1 ((0, 0) :: σ)) μ (qk_sf f2 μ) z (a :: as) c s m u k = _ := e1
    cases hv : rf_sv σ μ a with
    | none =>
      refine ⟨c1, s1, m1, u1, hs1, hu1, ?_⟩
      rw [e1', hv]
      simp only [rf_om, hv]
    | some v =>
      obtain ⟨c2, s2, m2, u2, hs2, hu2, e2⟩ := qf_svs_eq (f1 := f1) (f2 := f2) (z := z) (as := as) hs1 hu1 (fun l c s m u => k (v :: l) c s m u)
      refine ⟨c2, s2, m2, u2, hs2, hu2, ?_⟩
      rw [e1', hv]
      refine e2.trans ?_
      cases hl : rf_om (rf_sv σ μ) as with
      | none => simp only [rf_om, hv, hl]
      | some l => simp only [rf_om, hv, hl]
noncomputable def qf_sc {β : Type} (σ : List (Nat × Int)) (Z : List (List (Nat × Int))) (μ : List Nat) (M : List (List Nat)) (z : β) (a : rf_AC) (c : Nat) (s : List (Nat × Int)) (m : Nat) (u : List Nat) (k : rf_AC → Nat → List (Nat × Int) → Nat → List Nat → β) : β :=
  Bool.rec (motive := fun _ => β)
    (Bool.rec (motive := fun _ => β) z (qf_svs σ Z μ M z a.2.2.2.2 c s m u (fun l c s m u => k (a.1, a.2.1, a.2.2.1, a.2.2.2.1, l) c s m u)) (Nat.ble a.1 3))
    (k a c s m u)
    (Nat.beq a.1 1)
theorem qf_sc_eq {β : Type} {σ : List (Nat × Int)} {μ : List Nat} {f1 f2 : Nat} {a : rf_AC} {c : Nat} {s : List (Nat × Int)} {m : Nat} {u : List Nat} (hs : s = ((0, 0) :: σ).drop c) (hu : u = μ.drop m) (k : rf_AC → Nat → List (Nat × Int) → Nat → List Nat → β) (z : β) :
    ∃ c' s' m' u', s' = ((0, 0) :: σ).drop c' ∧ u' = μ.drop m' ∧ qf_sc ((0, 0) :: σ) (qk_sf f1 ((0, 0) :: σ)) μ (qk_sf f2 μ) z a c s m u k = (match rf_sc σ μ a with
      | some v => k v c' s' m' u'
      | none => z) := by
  obtain ⟨t, ka, na, ia, la⟩ := a
  have val : ∀ t : Nat, (rf_sc σ μ (t, ka, na, ia, la) = (match rf_om (rf_sv σ μ) la with
      | some l => some (t, ka, na, ia, l)
      | none => none)) → Nat.beq t 1 = false → Nat.ble t 3 = true → ∃ c' s' m' u', s' = ((0, 0) :: σ).drop c' ∧ u' = μ.drop m' ∧ qf_sc ((0, 0) :: σ) (qk_sf f1 ((0, 0) :: σ)) μ (qk_sf f2 μ) z (t, ka, na, ia, la) c s m u k = (match rf_sc σ μ (t, ka, na, ia, la) with
      | some v => k v c' s' m' u'
      | none => z) := by
    intro t ht h1 h3
    obtain ⟨c1, s1, m1, u1, hs1, hu1, e1⟩ := qf_svs_eq (f1 := f1) (f2 := f2) (z := z) (as := la) hs hu (fun l c s m u => k (t, ka, na, ia, l) c s m u)
    refine ⟨c1, s1, m1, u1, hs1, hu1, ?_⟩
    unfold qf_sc
    dsimp only
    rw [h1, h3, ht]
    refine Eq.trans e1 ?_
    cases rf_om (rf_sv σ μ) la with
    | none => rfl
    | some l => rfl
  match t with
  | 0 => exact val 0 rfl rfl rfl
  | 1 => exact ⟨c, s, m, u, hs, hu, rfl⟩
  | 2 => exact val 2 rfl rfl rfl
  | 3 => exact val 3 rfl rfl rfl
  | n + 4 => exact ⟨c, s, m, u, hs, hu, rfl⟩
noncomputable def qf_scs {β : Type} (σ : List (Nat × Int)) (Z : List (List (Nat × Int))) (μ : List Nat) (M : List (List Nat)) (z : β) (as : List rf_AC) : Nat → List (Nat × Int) → Nat → List Nat → (List rf_AC → β) → β :=
  List.rec (motive := fun _ => Nat → List (Nat × Int) → Nat → List Nat → (List rf_AC → β) → β)
    (fun _ _ _ _ k => k [])
    (fun a _ ih c s m u k => qf_sc σ Z μ M z a c s m u (fun v c s m u => ih c s m u (fun l => k (v :: l)))) as
theorem qf_scs_eq {β : Type} {σ : List (Nat × Int)} {μ : List Nat} {f1 f2 : Nat} {z : β} : ∀ {as : List rf_AC} {c : Nat} {s : List (Nat × Int)} {m : Nat} {u : List Nat}, s = ((0, 0) :: σ).drop c → u = μ.drop m → ∀ (k : List rf_AC → β),
    qf_scs ((0, 0) :: σ) (qk_sf f1 ((0, 0) :: σ)) μ (qk_sf f2 μ) z as c s m u k = (match rf_om (rf_sc σ μ) as with
      | some l => k l
      | none => z)
  | [], c, s, m, u, hs, hu, k => rfl
  | a :: as, c, s, m, u, hs, hu, k => by
    obtain ⟨c1, s1, m1, u1, hs1, hu1, e1⟩ := qf_sc_eq (f1 := f1) (f2 := f2) (a := a) hs hu (fun v c s m u => qf_scs ((0, 0) :: σ) (qk_sf f1 ((0, 0) :: σ)) μ (qk_sf f2 μ) z as c s m u (fun l => k (v :: l))) z
    have e1' : qf_scs ((0, 0) :: σ) (qk_sf f1 ((0, 0) :: σ)) μ (qk_sf f2 μ) z (a :: as) c s m u k = _ := e1
    rw [e1']
    cases hv : rf_sc σ μ a with
    | none => simp only [rf_om, hv]
    | some v =>
      refine (qf_scs_eq (f1 := f1) (f2 := f2) (z := z) (as := as) hs1 hu1 (fun l => k (v :: l))).trans ?_
      cases hl : rf_om (rf_sc σ μ) as with
      | none => simp only [rf_om, hv, hl]
      | some l => simp only [rf_om, hv, hl]
