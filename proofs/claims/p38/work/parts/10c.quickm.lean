/-! THE CHECKER, quicker: one picture within another, looked up with fingers -/
theorem qb_t {c t : Bool} (h : Bool.rec (motive := fun _ => Bool) false t c = true) : c = true ∧ t = true := by
  cases c with
  | false => cases h
  | true => exact ⟨rfl, h⟩
noncomputable def qf_dr {α : Type} (n : Nat) : List α → List α := Nat.rec (motive := fun _ => List α → List α) (fun l => l) (fun _ ih l => List.rec (motive := fun _ => List α) [] (fun _ t _ => ih t) l) n
theorem qf_dr_eq {α : Type} : ∀ (n : Nat) (l : List α), qf_dr n l = l.drop n
  | 0, _ => rfl
  | n + 1, [] => rfl
  | n + 1, _ :: t => qf_dr_eq n t
noncomputable def qf_suf {α : Type} (l : List α) (S : List (List α)) (i : Nat) : List α := Option.rec (motive := fun _ => List α) (l.drop i) (fun s => qf_dr (Nat.mod i 12) s) (qk_nth S (Nat.div i 12))
theorem qf_suf_eq {α : Type} (l : List α) (f i : Nat) : qf_suf l (qk_sf f l) i = l.drop i := by
  unfold qf_suf
  cases h : qk_nth (qk_sf f l) (Nat.div i 12) with
  | none => rfl
  | some s =>
    show qf_dr (Nat.mod i 12) s = l.drop i
    rw [qf_dr_eq]
    apply List.ext_getElem?
    intro j
    rw [List.getElem?_drop, List.getElem?_drop, qk_sf_at f l _ s h]
    congr 1
    have : 12 * (i / 12) + i % 12 = i := Nat.div_add_mod i 12
    show 12 * (i / 12) + (i % 12 + j) = i + j
    omega
/-- looked up with a finger: it stands at c, s is l from there on -/
noncomputable def qf_at {α β : Type} (l : List α) (S : List (List α)) (c : Nat) (s : List α) (i : Nat) (k : Option α → Nat → List α → β) : β := List.rec (motive := fun _ => β) (k none i []) (fun a t _ => k (some a) (Nat.succ i) t) (Bool.rec (motive := fun _ => List α) (qf_suf l S i) s (Nat.beq i c))
theorem qf_at_eq {α β : Type} {l : List α} {f c : Nat} {s : List α} (hs : s = l.drop c) (i : Nat) (k : Option α → Nat → List α → β) : ∃ c' s', s' = l.drop c' ∧ qf_at l (qk_sf f l) c s i k = k l[i]? c' s' := by
  have e : (Bool.rec (motive := fun _ => List α) (qf_suf l (qk_sf f l) i) s (Nat.beq i c) : List α) = l.drop i := by
    cases hb : Nat.beq i c with
    | true =>
      show s = _
      rw [hs, Nat.eq_of_beq_eq_true hb]
    | false =>
      show qf_suf l (qk_sf f l) i = _
      rw [qf_suf_eq]
  unfold qf_at
  rw [e]
  cases hd : l.drop i with
  | nil =>
    have h1 : l[i]? = none := by
      have := List.getElem?_drop (xs := l) (i := i) (j := 0)
      rw [hd] at this
      simpa using this.symm
    exact ⟨i, [], hd.symm, by rw [h1]⟩
  | cons a t =>
    have h1 : l[i]? = some a := by
      have := List.getElem?_drop (xs := l) (i := i) (j := 0)
      rw [hd] at this
      simpa using this.symm
    have h2 : t = l.drop (i + 1) := by
      have := congrArg List.tail hd
      rw [List.tail_drop] at this
      exact this.symm
    exact ⟨i + 1, t, h2, by rw [h1]⟩
noncomputable def qi_z (a : Int) : Bool := Int.rec (motive := fun _ => Bool) (fun n => Nat.beq n 0) (fun _ => false) a
theorem qi_z_eq {a : Int} (h : qi_z a = true) : a = 0 := by
  cases a with
  | ofNat n =>
    have h' : Nat.beq n 0 = true := h
    rw [Nat.eq_of_beq_eq_true h']
    rfl
  | negSucc n => cases h
noncomputable def qi_ad (a b : Int) : Int := Bool.rec (motive := fun _ => Int) (Bool.rec (motive := fun _ => Int) (a + b) b (qi_z a)) a (qi_z b)
theorem qi_ad_eq (a b : Int) : qi_ad a b = a + b := by
  unfold qi_ad
  cases hb : qi_z b with
  | true =>
    show a = _
    rw [qi_z_eq hb, Int.add_zero]
  | false =>
    cases ha : qi_z a with
    | true =>
      show b = _
      rw [qi_z_eq ha, Int.zero_add]
    | false => rfl
noncomputable def qi_sb (a b : Int) : Int := Bool.rec (motive := fun _ => Int) (a - b) a (qi_z b)
theorem qi_sb_eq (a b : Int) : qi_sb a b = a - b := by
  unfold qi_sb
  cases hb : qi_z b with
  | true =>
    show a = _
    rw [qi_z_eq hb, Int.sub_zero]
  | false => rfl
/-- ghosts' list with the number 0 ahead -/
theorem qf_gi0 (E : rf_EV) : ∀ g : Nat, ((0, 0, false) :: E.1)[g]? = rf_gi E g
  | 0 => rfl
  | _ + 1 => rfl
theorem qf_sg0 (σ : List (Nat × Int)) : ∀ g : Nat, ((0, (0 : Int)) :: σ)[g]? = rf_sg σ g
  | 0 => rfl
  | _ + 1 => rfl
noncomputable def qf_same (gi : Nat → Option rf_GI) (q : Nat × Int) (d : Int) (b : rf_AV) : Bool := Bool.rec (motive := fun _ => Bool) (qg_same gi q.1 (q.2 + d) b.2.1 b.2.2) true (Bool.rec (motive := fun _ => Bool) false (qi_beq (qi_ad q.2 d) b.2.2) (Nat.beq q.1 b.2.1))
theorem qf_same_spec {E : rf_EV} {q : Nat × Int} {d : Int} {b : rf_AV} (h : qf_same (rf_gi E) q d b = true) : rf_same E q.1 (q.2 + d) b.2.1 b.2.2 = true := by
  unfold qf_same at h
  cases h1 : (Bool.rec (motive := fun _ => Bool) false (qi_beq (qi_ad q.2 d) b.2.2) (Nat.beq q.1 b.2.1) : Bool) with
  | true =>
    obtain ⟨a1, a2⟩ := qb_t h1
    rw [qi_ad_eq, qi_beq_eq] at a2
    unfold rf_same
    rw [a1, a2]
    rfl
  | false =>
    rw [h1] at h
    have h' : qg_same (rf_gi E) q.1 (q.2 + d) b.2.1 b.2.2 = true := h
    rw [qg_same_eq] at h'
    exact h'
/-- a value; behind it the fingers -/
noncomputable def qf_v (gi : Nat → Option rf_GI) (σ : List (Nat × Int)) (Z : List (List (Nat × Int))) (μ : List Nat) (M : List (List Nat)) (a b : rf_AV) (c : Nat) (s : List (Nat × Int)) (m : Nat) (u : List Nat) (k : Nat → List (Nat × Int) → Nat → List Nat → Bool) : Bool :=
  Bool.rec (motive := fun _ => Bool) false
    (Bool.rec (motive := fun _ => Bool)
      (Bool.rec (motive := fun _ => Bool)
        (Bool.rec (motive := fun _ => Bool) false (k c s m u) (Bool.rec (motive := fun _ => Bool) (Bool.rec (motive := fun _ => Bool) false (Nat.beq a.2.1 b.2.1) (Nat.beq a.1 4)) true (Nat.beq a.1 3)))
        (Bool.rec (motive := fun _ => Bool)
          (qf_at σ Z c s a.2.1 (fun o c' s' => Option.rec (motive := fun _ => Bool) false (fun q => Bool.rec (motive := fun _ => Bool) false (k c' s' m u) (qf_same gi q a.2.2 b)) o))
          (Bool.rec (motive := fun _ => Bool) false (k c s m u) (qf_same gi (0, 0) a.2.2 b))
          (Nat.beq a.2.1 0))
        (Bool.rec (motive := fun _ => Bool) (Nat.beq a.1 5) true (Nat.ble a.1 1)))
      (qf_at μ M m u a.2.1 (fun o m' u' => Option.rec (motive := fun _ => Bool) false (fun z => Bool.rec (motive := fun _ => Bool) false (k c s m' u') (Nat.beq z b.2.1)) o))
      (Nat.beq a.1 2))
    (Nat.beq a.1 b.1)
theorem qf_v_spec {E : rf_EV} {σ : List (Nat × Int)} {μ : List Nat} {f1 f2 : Nat} {a b : rf_AV} {c : Nat} {s : List (Nat × Int)} {m : Nat} {u : List Nat} {k : Nat → List (Nat × Int) → Nat → List Nat → Bool} (hs : s = ((0, 0) :: σ).drop c) (hu : u = μ.drop m) (h : qf_v (rf_gi E) ((0, 0) :: σ) (qk_sf f1 ((0, 0) :: σ)) μ (qk_sf f2 μ) a b c s m u k = true) :
    rf_mv E σ μ a b = true ∧ ∃ c' s' m' u', s' = ((0, 0) :: σ).drop c' ∧ u' = μ.drop m' ∧ k c' s' m' u' = true := by
  unfold qf_v at h
  obtain ⟨h0, h⟩ := qb_t h
  unfold rf_mv
  rw [h0, Bool.true_and]
  obtain ⟨t, g, d⟩ := a
  dsimp only at h ⊢
  cases h2 : Nat.beq t 2 with
  | true =>
    rw [h2] at h
    have e2 := Nat.eq_of_beq_eq_true h2
    subst e2
    obtain ⟨m', u', hu', e⟩ := qf_at_eq (f := f2) hu g (fun o m' u' => Option.rec (motive := fun _ => Bool) false (fun z => Bool.rec (motive := fun _ => Bool) false (k c s m' u') (Nat.beq z b.2.1)) o)
    have h' := e.symm.trans h
    try dsimp only at h'
    try dsimp only
    cases hm : μ[g]? with
    | none => rw [hm] at h'; cases h'
    | some z =>
      rw [hm] at h'
      obtain ⟨p1, p2⟩ := qb_t h'
      exact ⟨p1, c, s, m', u', hs, hu', p2⟩
  | false =>
    rw [h2] at h
    cases h3 : (Bool.rec (motive := fun _ => Bool) (Nat.beq t 5) true (Nat.ble t 1) : Bool) with
    | true =>
      have h' : (Bool.rec (motive := fun _ => Bool)
          (qf_at ((0, 0) :: σ) (qk_sf f1 ((0, 0) :: σ)) c s g (fun o c' s' => Option.rec (motive := fun _ => Bool) false (fun q => Bool.rec (motive := fun _ => Bool) false (k c' s' m u) (qf_same (rf_gi E) q d b)) o))
          (Bool.rec (motive := fun _ => Bool) false (k c s m u) (qf_same (rf_gi E) (0, 0) d b))
          (Nat.beq g 0) : Bool) = true := by
        rw [h3] at h
        exact h
      have key : rf_mnum E σ (t, g, d) b = true ∧ ∃ c' s' m' u', s' = ((0, 0) :: σ).drop c' ∧ u' = μ.drop m' ∧ k c' s' m' u' = true := by
        cases h4 : Nat.beq g 0 with
        | true =>
          rw [h4] at h'
          obtain ⟨p1, p2⟩ := qb_t h'
          have e4 := Nat.eq_of_beq_eq_true h4
          subst e4
          exact ⟨qf_same_spec p1, c, s, m, u, hs, hu, p2⟩
        | false =>
          rw [h4] at h'
          obtain ⟨c', s', hs', e⟩ := qf_at_eq (f := f1) hs g (fun o c' s' => Option.rec (motive := fun _ => Bool) false (fun q => Bool.rec (motive := fun _ => Bool) false (k c' s' m u) (qf_same (rf_gi E) q d b)) o)
          have h'' := e.symm.trans h'
          rw [qf_sg0] at h''
          unfold rf_mnum
          dsimp only
          cases hq : rf_sg σ g with
          | none => rw [hq] at h''; cases h''
          | some q =>
            rw [hq] at h''
            obtain ⟨p1, p2⟩ := qb_t h''
            exact ⟨qf_same_spec p1, c', s', m, u, hs', hu, p2⟩
      cases h5 : Nat.ble t 1 with
      | true =>
        have h6 := Nat.le_of_ble_eq_true h5
        match t, h6, key with
        | 0, _, key => exact key
        | 1, _, key => exact key
      | false =>
        rw [h5] at h3
        have h6 : Nat.beq t 5 = true := h3
        have e5 := Nat.eq_of_beq_eq_true h6
        subst e5
        exact key
    | false =>
      rw [h3] at h
      obtain ⟨p1, p2⟩ := qb_t h
      cases h5 : Nat.beq t 3 with
      | true =>
        have e5 := Nat.eq_of_beq_eq_true h5
        subst e5
        exact ⟨rfl, c, s, m, u, hs, hu, p2⟩
      | false =>
        rw [h5] at p1
        obtain ⟨p3, p4⟩ := qb_t p1
        have e5 := Nat.eq_of_beq_eq_true p3
        subst e5
        exact ⟨p4, c, s, m, u, hs, hu, p2⟩
noncomputable def qf_vs (gi : Nat → Option rf_GI) (σ : List (Nat × Int)) (Z : List (List (Nat × Int))) (μ : List Nat) (M : List (List Nat)) (as : List rf_AV) : List rf_AV → Nat → List (Nat × Int) → Nat → List Nat → (Nat → List (Nat × Int) → Nat → List Nat → Bool) → Bool :=
  List.rec (motive := fun _ => List rf_AV → Nat → List (Nat × Int) → Nat → List Nat → (Nat → List (Nat × Int) → Nat → List Nat → Bool) → Bool)
    (fun bs c s m u k => List.rec (motive := fun _ => Bool) (k c s m u) (fun _ _ _ => false) bs)
    (fun a _ ih bs c s m u k => List.rec (motive := fun _ => Bool) false (fun b bt _ => qf_v gi σ Z μ M a b c s m u (fun c s m u => ih bt c s m u k)) bs) as
theorem qf_vs_spec {E : rf_EV} {σ : List (Nat × Int)} {μ : List Nat} {f1 f2 : Nat} : ∀ {as bs : List rf_AV} {c : Nat} {s : List (Nat × Int)} {m : Nat} {u : List Nat} {k : Nat → List (Nat × Int) → Nat → List Nat → Bool}, s = ((0, 0) :: σ).drop c → u = μ.drop m → qf_vs (rf_gi E) ((0, 0) :: σ) (qk_sf f1 ((0, 0) :: σ)) μ (qk_sf f2 μ) as bs c s m u k = true →
    rf_all2 (rf_mv E σ μ) as bs = true ∧ ∃ c' s' m' u', s' = ((0, 0) :: σ).drop c' ∧ u' = μ.drop m' ∧ k c' s' m' u' = true
  | [], [], c, s, m, u, _, hs, hu, h => ⟨rfl, c, s, m, u, hs, hu, h⟩
  | [], _ :: _, _, _, _, _, _, _, _, h => by cases h
  | _ :: _, [], _, _, _, _, _, _, _, h => by cases h
  | a :: as, b :: bs, c, s, m, u, k, hs, hu, h => by
    have h' : qf_v (rf_gi E) ((0, 0) :: σ) (qk_sf f1 ((0, 0) :: σ)) μ (qk_sf f2 μ) a b c s m u (fun c s m u => qf_vs (rf_gi E) ((0, 0) :: σ) (qk_sf f1 ((0, 0) :: σ)) μ (qk_sf f2 μ) as bs c s m u k) = true := h
    obtain ⟨p1, c', s', m', u', hs', hu', p2⟩ := qf_v_spec hs hu h'
    obtain ⟨p3, p4⟩ := qf_vs_spec hs' hu' p2
    refine ⟨?_, p4⟩
    simp only [rf_all2, p1, p3, Bool.and_self]
/-- a cell -/
noncomputable def qf_c (gi : Nat → Option rf_GI) (sg : Nat → Option (Nat × Int)) (mu : Nat → Option Nat) (σ : List (Nat × Int)) (Z : List (List (Nat × Int))) (μ : List Nat) (M : List (List Nat)) (a b : rf_AC) (c : Nat) (s : List (Nat × Int)) (m : Nat) (u : List Nat) (k : Nat → List (Nat × Int) → Nat → List Nat → Bool) : Bool :=
  Bool.rec (motive := fun _ => Bool)
    (Bool.rec (motive := fun _ => Bool) false (k c s m u) (qg_mc gi sg mu a b))
    (Bool.rec (motive := fun _ => Bool)
      (Bool.rec (motive := fun _ => Bool) false (qf_vs gi σ Z μ M a.2.2.2.2 b.2.2.2.2 c s m u k) (Bool.rec (motive := fun _ => Bool) false (Nat.beq a.2.1 b.2.1) (Nat.ble a.1 3)))
      (Bool.rec (motive := fun _ => Bool) false (k c s m u) (Bool.rec (motive := fun _ => Bool) false (Bool.rec (motive := fun _ => Bool) false (Bool.rec (motive := fun _ => Bool) false (qi_le b.2.2.2.1.2 a.2.2.2.1.2) (qi_le a.2.2.2.1.1 b.2.2.2.1.1)) (Nat.beq a.2.2.1 b.2.2.1)) (Nat.beq a.2.1 b.2.1)))
      (Nat.beq a.1 1))
    (Nat.beq a.1 b.1)
theorem qf_c_spec {E : rf_EV} {σ : List (Nat × Int)} {μ : List Nat} {f1 f2 : Nat} {a b : rf_AC} {c : Nat} {s : List (Nat × Int)} {m : Nat} {u : List Nat} {k : Nat → List (Nat × Int) → Nat → List Nat → Bool} (hs : s = ((0, 0) :: σ).drop c) (hu : u = μ.drop m) (h : qf_c (rf_gi E) (rf_sg σ) (qg_mu μ) ((0, 0) :: σ) (qk_sf f1 ((0, 0) :: σ)) μ (qk_sf f2 μ) a b c s m u k = true) :
    rf_mc E σ μ a b = true ∧ ∃ c' s' m' u', s' = ((0, 0) :: σ).drop c' ∧ u' = μ.drop m' ∧ k c' s' m' u' = true := by
  unfold qf_c at h
  cases h0 : Nat.beq a.1 b.1 with
  | false =>
    rw [h0] at h
    obtain ⟨p1, p2⟩ := qb_t h
    rw [qg_mc_eq] at p1
    exact ⟨p1, c, s, m, u, hs, hu, p2⟩
  | true =>
    rw [h0] at h
    have e0 := Nat.eq_of_beq_eq_true h0
    obtain ⟨ta, ka, na, ia, la⟩ := a
    obtain ⟨tb, kb, nb, ib, lb⟩ := b
    dsimp only at e0
    subst e0
    cases h1 : Nat.beq ta 1 with
    | true =>
      have h' : (Bool.rec (motive := fun _ => Bool) false (k c s m u) (Bool.rec (motive := fun _ => Bool) false (Bool.rec (motive := fun _ => Bool) false (Bool.rec (motive := fun _ => Bool) false (qi_le ib.2 ia.2) (qi_le ia.1 ib.1)) (Nat.beq na nb)) (Nat.beq ka kb)) : Bool) = true := by
        dsimp only at h
        rw [h1] at h
        exact h
      obtain ⟨p1, p2⟩ := qb_t h'
      obtain ⟨p3, p4⟩ := qb_t p1
      obtain ⟨p5, p6⟩ := qb_t p4
      obtain ⟨p7, p8⟩ := qb_t p6
      have e1 := Nat.eq_of_beq_eq_true h1
      subst e1
      refine ⟨?_, c, s, m, u, hs, hu, p2⟩
      rw [qi_le_eq] at p7 p8
      show (Nat.beq ka kb && (Nat.beq na nb && (decide (ia.1 ≤ ib.1) && decide (ib.2 ≤ ia.2)))) = true
      rw [p3, p5, p7, p8]
      rfl
    | false =>
      have h' : (Bool.rec (motive := fun _ => Bool) false (qf_vs (rf_gi E) ((0, 0) :: σ) (qk_sf f1 ((0, 0) :: σ)) μ (qk_sf f2 μ) la lb c s m u k) (Bool.rec (motive := fun _ => Bool) false (Nat.beq ka kb) (Nat.ble ta 3)) : Bool) = true := by
        dsimp only at h
        rw [h1] at h
        exact h
      obtain ⟨p1, p2⟩ := qb_t h'
      obtain ⟨p3, p4⟩ := qb_t p1
      obtain ⟨p5, p6⟩ := qf_vs_spec hs hu p2
      refine ⟨?_, p6⟩
      have h3 := Nat.le_of_ble_eq_true p3
      match ta, h3, h1 with
      | 0, _, _ =>
        show (Nat.beq ka kb && rf_all2 (rf_mv E σ μ) la lb) = true
        rw [p4, p5]
        rfl
      | 2, _, _ =>
        show (Nat.beq ka kb && rf_all2 (rf_mv E σ μ) la lb) = true
        rw [p4, p5]
        rfl
      | 3, _, _ =>
        show (Nat.beq ka kb && rf_all2 (rf_mv E σ μ) la lb) = true
        rw [p4, p5]
        rfl
noncomputable def qf_cs (gi : Nat → Option rf_GI) (sg : Nat → Option (Nat × Int)) (mu : Nat → Option Nat) (σ : List (Nat × Int)) (Z : List (List (Nat × Int))) (μ : List Nat) (M : List (List Nat)) (w : List rf_AC) (W : List (List rf_AC)) (wP : List rf_AC) : List Nat → Nat → List rf_AC → Nat → List (Nat × Int) → Nat → List Nat → Bool :=
  List.rec (motive := fun _ => List Nat → Nat → List rf_AC → Nat → List (Nat × Int) → Nat → List Nat → Bool)
    (fun ms _ _ _ _ _ _ => List.rec (motive := fun _ => Bool) true (fun _ _ _ => false) ms)
    (fun a _ ih ms cw sw c s m u => List.rec (motive := fun _ => Bool) false (fun z mt _ => qf_at w W cw sw z (fun o cw' sw' => Option.rec (motive := fun _ => Bool) false (fun b => qf_c gi sg mu σ Z μ M a b c s m u (fun c s m u => ih mt cw' sw' c s m u)) o)) ms) wP
theorem qf_cs_spec {E : rf_EV} {σ : List (Nat × Int)} {μ : List Nat} {w : List rf_AC} {f1 f2 f3 : Nat} : ∀ {wP : List rf_AC} {ms : List Nat} {cw : Nat} {sw : List rf_AC} {c : Nat} {s : List (Nat × Int)} {m : Nat} {u : List Nat}, sw = w.drop cw → s = ((0, 0) :: σ).drop c → u = μ.drop m → qf_cs (rf_gi E) (rf_sg σ) (qg_mu μ) ((0, 0) :: σ) (qk_sf f1 ((0, 0) :: σ)) μ (qk_sf f2 μ) w (qk_sf f3 w) wP ms cw sw c s m u = true →
    rf_all2 (rf_mw E σ μ w) ms wP = true
  | [], [], _, _, _, _, _, _, _, _, _, _ => rfl
  | [], _ :: _, _, _, _, _, _, _, _, _, _, h => by cases h
  | _ :: _, [], _, _, _, _, _, _, _, _, _, h => by cases h
  | a :: wP, z :: ms, cw, sw, c, s, m, u, hw, hs, hu, h => by
    obtain ⟨cw', sw', hw', e⟩ := qf_at_eq (f := f3) hw z (fun o cw' sw' => Option.rec (motive := fun _ => Bool) false (fun b => qf_c (rf_gi E) (rf_sg σ) (qg_mu μ) ((0, 0) :: σ) (qk_sf f1 ((0, 0) :: σ)) μ (qk_sf f2 μ) a b c s m u (fun c s m u => qf_cs (rf_gi E) (rf_sg σ) (qg_mu μ) ((0, 0) :: σ) (qk_sf f1 ((0, 0) :: σ)) μ (qk_sf f2 μ) w (qk_sf f3 w) wP ms cw' sw' c s m u)) o)
    have h' := e.symm.trans h
    try dsimp only at h'
    cases hb : w[z]? with
    | none => rw [hb] at h'; cases h'
    | some b =>
      rw [hb] at h'
      obtain ⟨p1, c', s', m', u', hs', hu', p2⟩ := qf_c_spec hs hu h'
      have p3 := qf_cs_spec hw' hs' hu' p2
      have p4 : rf_mw E σ μ w z a = true := by
        unfold rf_mw
        rw [hb]
        exact p1
      simp only [rf_all2, p4, p3, Bool.and_self]
/-- a ghost's bounds -/
noncomputable def qf_g1 (z : rf_GI) (d : Int) (b : rf_GI) : Bool := Bool.rec (motive := fun _ => Bool) false (Bool.rec (motive := fun _ => Bool) false (Bool.rec (motive := fun _ => Bool) true (rf_nz z d) b.2.2) (qi_le (qi_ad z.2.1 d) b.2.1)) (qi_le b.1 (qi_ad z.1 d))
theorem qf_g1_spec {z : rf_GI} {d : Int} {b : rf_GI} (h : qf_g1 z d b = true) : (decide (b.1 ≤ z.1 + d) && (decide (z.2.1 + d ≤ b.2.1) && (!b.2.2 || rf_nz z d))) = true := by
  unfold qf_g1 at h
  obtain ⟨p1, p2⟩ := qb_t h
  obtain ⟨p3, p4⟩ := qb_t p2
  rw [qi_ad_eq, qi_le_eq] at p1 p3
  rw [p1, p3]
  cases hb : b.2.2 with
  | false => rfl
  | true =>
    rw [hb] at p4
    have p5 : rf_nz z d = true := p4
    rw [p5]
    rfl
noncomputable def qf_gs (l : List rf_GI) (S : List (List rf_GI)) (σ : List (Nat × Int)) : List rf_GI → Nat → List rf_GI → Bool :=
  List.rec (motive := fun _ => List rf_GI → Nat → List rf_GI → Bool)
    (fun bs _ _ => List.rec (motive := fun _ => Bool) true (fun _ _ _ => false) bs)
    (fun q _ ih bs c s => List.rec (motive := fun _ => Bool) false (fun b bt _ => Bool.rec (motive := fun _ => Bool)
      (qf_at l S c s q.1 (fun o c' s' => Option.rec (motive := fun _ => Bool) false (fun z => Bool.rec (motive := fun _ => Bool) false (ih bt c' s') (qf_g1 z q.2 b)) o))
      (Bool.rec (motive := fun _ => Bool) false (ih bt c s) (qf_g1 (0, 0, false) q.2 b))
      (Nat.beq q.1 0)) bs) σ
theorem qf_gs_spec {E : rf_EV} {f : Nat} : ∀ {σ : List (Nat × Int)} {bs : List rf_GI} {c : Nat} {s : List rf_GI}, s = ((0, 0, false) :: E.1).drop c → qf_gs ((0, 0, false) :: E.1) (qk_sf f ((0, 0, false) :: E.1)) σ bs c s = true → rf_all2 (rf_mg E) σ bs = true
  | [], [], _, _, _, _ => rfl
  | [], _ :: _, _, _, _, h => by cases h
  | _ :: _, [], _, _, _, h => by cases h
  | q :: σ, b :: bs, c, s, hs, h => by
    have h' : (Bool.rec (motive := fun _ => Bool)
      (qf_at ((0, 0, false) :: E.1) (qk_sf f ((0, 0, false) :: E.1)) c s q.1 (fun o c' s' => Option.rec (motive := fun _ => Bool) false (fun z => Bool.rec (motive := fun _ => Bool) false (qf_gs ((0, 0, false) :: E.1) (qk_sf f ((0, 0, false) :: E.1)) σ bs c' s') (qf_g1 z q.2 b)) o))
      (Bool.rec (motive := fun _ => Bool) false (qf_gs ((0, 0, false) :: E.1) (qk_sf f ((0, 0, false) :: E.1)) σ bs c s) (qf_g1 (0, 0, false) q.2 b))
      (Nat.beq q.1 0) : Bool) = true := h
    have key : rf_mg E q b = true ∧ ∃ c' s', s' = ((0, 0, false) :: E.1).drop c' ∧ qf_gs ((0, 0, false) :: E.1) (qk_sf f ((0, 0, false) :: E.1)) σ bs c' s' = true := by
      cases h0 : Nat.beq q.1 0 with
      | true =>
        rw [h0] at h'
        obtain ⟨p1, p2⟩ := qb_t h'
        refine ⟨?_, c, s, hs, p2⟩
        unfold rf_mg
        rw [Nat.eq_of_beq_eq_true h0]
        exact qf_g1_spec p1
      | false =>
        rw [h0] at h'
        obtain ⟨c', s', hs', e⟩ := qf_at_eq (f := f) hs q.1 (fun o c' s' => Option.rec (motive := fun _ => Bool) false (fun z => Bool.rec (motive := fun _ => Bool) false (qf_gs ((0, 0, false) :: E.1) (qk_sf f ((0, 0, false) :: E.1)) σ bs c' s') (qf_g1 z q.2 b)) o)
        have h'' := e.symm.trans h'
        rw [qf_gi0] at h''
        unfold rf_mg
        cases hz : rf_gi E q.1 with
        | none => rw [hz] at h''; cases h''
        | some z =>
          rw [hz] at h''
          obtain ⟨p1, p2⟩ := qb_t h''
          exact ⟨qf_g1_spec p1, c', s', hs', p2⟩
    obtain ⟨k1, c', s', hs', k2⟩ := key
    simp only [rf_all2, k1, qf_gs_spec hs' k2, Bool.and_self]
/-- 'at most', as it is told or by more than that -/
noncomputable def qf_leq (E : rf_EV) (a b : Nat × Int) (d : Int) : Bool := Bool.rec (motive := fun _ => Bool) (rf_leq E (0, a.1, a.2) (0, b.1, b.2 + d)) true (qk_any (fun e => Bool.rec (motive := fun _ => Bool) false (Bool.rec (motive := fun _ => Bool) false (qi_le e.2.2 (qi_sb (qi_ad b.2 d) a.2)) (Nat.beq e.2.1 b.1)) (Nat.beq e.1 a.1)) E.2)
theorem qf_lec {l : List (Nat × Nat × Int)} {g h : Nat} {d : Int} : ∀ {e : Nat × Nat × Int}, e ∈ l → Nat.beq e.1 g = true → Nat.beq e.2.1 h = true → e.2.2 ≤ d → rf_lec l g h d = true := by
  induction l with
  | nil => intro e he; cases he
  | cons c l ih =>
    intro e he h1 h2 h3
    unfold rf_lec
    rcases List.mem_cons.mp he with rfl | he
    · rw [h1, h2, decide_eq_true h3]
      rfl
    · rw [ih he h1 h2 h3, Bool.or_true]
theorem qf_leq_spec {E : rf_EV} {a b : Nat × Int} {d : Int} (h : qf_leq E a b d = true) : rf_leq E (0, a.1, a.2) (0, b.1, b.2 + d) = true := by
  unfold qf_leq at h
  cases hq : qk_any (fun e => Bool.rec (motive := fun _ => Bool) false (Bool.rec (motive := fun _ => Bool) false (qi_le e.2.2 (qi_sb (qi_ad b.2 d) a.2)) (Nat.beq e.2.1 b.1)) (Nat.beq e.1 a.1)) E.2 with
  | false =>
    rw [hq] at h
    exact h
  | true =>
    rw [qk_any_eq] at hq
    obtain ⟨e, e1, e2⟩ := List.any_eq_true.mp hq
    obtain ⟨p1, p2⟩ := qb_t e2
    obtain ⟨p3, p4⟩ := qb_t p2
    rw [qi_sb_eq, qi_ad_eq, qi_le_eq] at p4
    have p5 := of_decide_eq_true p4
    unfold rf_leq rf_leqd
    rw [qf_lec e1 p1 p3 p5]
    simp only [Bool.or_true, Bool.true_or]
noncomputable def qf_me2 (E : rf_EV) (sg : Nat → Option (Nat × Int)) (cs : List (Nat × Nat × Int)) : Bool := qk_all (fun c => Option.rec (motive := fun _ => Bool) false (fun a => Option.rec (motive := fun _ => Bool) false (fun b => qf_leq E a b c.2.2) (sg c.2.1)) (sg c.1)) cs
noncomputable def rf_msF (E : rf_EV) (σ : List (Nat × Int)) (μ : List Nat) (w : List rf_AC) (fs : List rf_FC) (EP : rf_EV) (wP : List rf_AC) (fP : List rf_FC) : Bool :=
  Bool.rec (motive := fun _ => Bool) false
    (Bool.rec (motive := fun _ => Bool) false
      (Bool.rec (motive := fun _ => Bool) false
        (Bool.rec (motive := fun _ => Bool) false (qk_nd μ 0) (qk_all (fun f => qk_any (qg_mf (qk_gi E (qk_sf 32 E.1)) (qk_sg σ (qk_sf 32 σ)) (qk_at μ (qk_sf 32 μ)) f) fs || rf_ent E σ fs f) fP))
        (qf_me2 E (qk_sg σ (qk_sf 32 σ)) EP.2))
      (qf_cs (qk_gi E (qk_sf 32 E.1)) (qk_sg σ (qk_sf 32 σ)) (qk_at μ (qk_sf 32 μ)) ((0, 0) :: σ) (qk_sf 32 ((0, 0) :: σ)) μ (qk_sf 32 μ) w (qk_sf 32 w) wP μ 0 w 1 σ 0 μ))
    (qf_gs ((0, 0, false) :: E.1) (qk_sf 32 ((0, 0, false) :: E.1)) σ EP.1 1 E.1)
theorem rf_msF_ms {E : rf_EV} {σ : List (Nat × Int)} {μ : List Nat} {w : List rf_AC} {fs : List rf_FC} {EP : rf_EV} {wP : List rf_AC} {fP : List rf_FC} (h : rf_msF E σ μ w fs EP wP fP = true) : rf_ms E σ μ w fs EP wP fP = true := by
  unfold rf_msF at h
  obtain ⟨h1, h⟩ := qb_t h
  obtain ⟨h2, h⟩ := qb_t h
  obtain ⟨h3, h⟩ := qb_t h
  obtain ⟨h4, h5⟩ := qb_t h
  rw [qk_gi_eq, qk_sg_eq, qk_mu_eq] at h2 h4
  rw [qk_sg_eq] at h3
  rw [qg_mf_eq, qk_all_eq] at h4
  simp only [qk_any_eq] at h4
  have a1 := qf_gs_spec (E := E) (f := 32) (c := 1) rfl h1
  have a2 := qf_cs_spec (E := E) (f1 := 32) (f2 := 32) (f3 := 32) (cw := 0) (c := 1) (m := 0) rfl rfl rfl h2
  have a3 : EP.2.all (fun c => match rf_sg σ c.1, rf_sg σ c.2.1 with
    | some a, some b => rf_leq E (0, a.1, a.2) (0, b.1, b.2 + c.2.2)
    | _, _ => false) = true := by
    unfold qf_me2 at h3
    rw [qk_all_eq] at h3
    rw [List.all_eq_true] at h3 ⊢
    intro c hc
    have h3 := h3 c hc
    cases ha : rf_sg σ c.1 with
    | none => rw [ha] at h3; cases h3
    | some a =>
      cases hb : rf_sg σ c.2.1 with
      | none => rw [ha, hb] at h3; cases h3
      | some b =>
        rw [ha, hb] at h3
        exact qf_leq_spec h3
  simp only [rf_ms, rf_me, Bool.and_eq_true]
  exact ⟨⟨a1, a3⟩, h4, a2, (qk_nd_spec μ 0 h5).1⟩
