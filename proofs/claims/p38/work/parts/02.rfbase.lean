/-! THE CHECKER, its words. A ghost is a number that isn't known: ghost 0 is the number 0, ghost n + 1 the n-th of the list ρ.
A value's picture is (tag, ghost or place, offset); tags: 0 int, 1 long, 2 cell of the world, 3 null, 4 constant cell. -/
abbrev rf_GI : Type := Int × Int × Bool
abbrev rf_EV : Type := List rf_GI × List (Nat × Nat × Int)
abbrev rf_AV : Type := Nat × Nat × Int
/-- (sort, a, b, (lo, hi), values); sorts: 0 object of class a; 1 row of kind a, b long, all within lo .. hi; 2 row of references of kind a; 3 row of ints of kind a, each told -/
abbrev rf_AC : Type := Nat × Nat × Nat × (Int × Int) × List rf_AV
abbrev rf_LC : Type := List (Nat × rf_AV)
/-- a fact: its kind, cells of the world that it speaks of, numbers that it speaks of -/
abbrev rf_FC : Type := Nat × List Nat × List rf_AV
/-- facts, cells made, slots made -/
abbrev rf_T : Type := List rf_FC × Nat × Nat
/-- ghosts, locals, stack, world, the rest -/
abbrev rf_AS : Type := rf_EV × rf_LC × List rf_AV × List rf_AC × rf_T

def rf_L {α β : Type} (R : α → β → Prop) : List α → List β → Prop
  | [], [] => True
  | a :: as, b :: bs => R a b ∧ rf_L R as bs
  | _, _ => False
theorem rf_L_len {α β : Type} {R : α → β → Prop} : ∀ {as : List α} {bs : List β}, rf_L R as bs → as.length = bs.length
  | [], [], _ => rfl
  | _ :: _, _ :: _, h => by simp only [List.length_cons, rf_L_len h.2]
  | [], _ :: _, h => h.elim
  | _ :: _, [], h => h.elim
theorem rf_L_get {α β : Type} {R : α → β → Prop} : ∀ {as : List α} {bs : List β}, rf_L R as bs → ∀ {i : Nat} {a : α}, as[i]? = some a → ∃ b, bs[i]? = some b ∧ R a b
  | [], [], _, i, a, e => by simp at e
  | x :: _, y :: _, h, 0, a, e => by
    simp only [List.getElem?_cons_zero, Option.some.injEq] at e
    subst e
    exact ⟨y, rfl, h.1⟩
  | _ :: _, _ :: _, h, i + 1, a, e => by
    simp only [List.getElem?_cons_succ] at e
    obtain ⟨b, h1, h2⟩ := rf_L_get h.2 e
    exact ⟨b, by simpa using h1, h2⟩
  | [], _ :: _, h, _, _, _ => h.elim
  | _ :: _, [], h, _, _, _ => h.elim
theorem rf_L_set {α β : Type} {R : α → β → Prop} {a : α} {b : β} (hab : R a b) : ∀ {as : List α} {bs : List β}, rf_L R as bs → ∀ i : Nat, rf_L R (as.set i a) (bs.set i b)
  | [], [], _, _ => trivial
  | _ :: _, _ :: _, h, 0 => ⟨hab, h.2⟩
  | _ :: _, _ :: _, h, i + 1 => ⟨h.1, rf_L_set hab h.2 i⟩
  | [], _ :: _, h, _ => h.elim
  | _ :: _, [], h, _ => h.elim
theorem rf_L_mono {α β : Type} {R R' : α → β → Prop} (hR : ∀ a b, R a b → R' a b) : ∀ {as : List α} {bs : List β}, rf_L R as bs → rf_L R' as bs
  | [], [], _ => trivial
  | _ :: _, _ :: _, h => ⟨hR _ _ h.1, rf_L_mono hR h.2⟩
  | [], _ :: _, h => h.elim
  | _ :: _, [], h => h.elim
theorem rf_L_app {α β : Type} {R : α → β → Prop} : ∀ {as : List α} {bs : List β} {as' : List α} {bs' : List β}, rf_L R as bs → rf_L R as' bs' → rf_L R (as ++ as') (bs ++ bs')
  | [], [], _, _, _, h' => h'
  | _ :: _, _ :: _, _, _, h, h' => ⟨h.1, rf_L_app h.2 h'⟩
  | [], _ :: _, _, _, h, _ => h.elim
  | _ :: _, [], _, _, h, _ => h.elim
theorem rf_L_filter {α β : Type} {R : α → β → Prop} {f : α → Bool} {g : β → Bool} (hfg : ∀ a b, R a b → f a = g b) : ∀ {as : List α} {bs : List β}, rf_L R as bs → rf_L R (as.filter f) (bs.filter g)
  | [], [], _ => trivial
  | a :: as, b :: bs, h => by
    have e := hfg a b h.1
    have t := rf_L_filter hfg h.2
    cases hg : g b with
    | true =>
      rw [hg] at e
      rw [List.filter_cons_of_pos e, List.filter_cons_of_pos hg]
      exact ⟨h.1, t⟩
    | false =>
      rw [hg] at e
      rw [List.filter_cons_of_neg (by simp [e]), List.filter_cons_of_neg (by simp [hg])]
      exact t
  | [], _ :: _, h => h.elim
  | _ :: _, [], h => h.elim
theorem rf_L_of {α β : Type} {R : α → β → Prop} : ∀ {as : List α} {bs : List β}, as.length = bs.length → (∀ (i : Nat) (a : α) (b : β), as[i]? = some a → bs[i]? = some b → R a b) → rf_L R as bs
  | [], [], _, _ => trivial
  | _ :: _, _ :: _, h, k => ⟨k 0 _ _ rfl rfl, rf_L_of (by simpa using h) (fun i a b h1 h2 => k (i + 1) a b (by simpa using h1) (by simpa using h2))⟩
  | [], _ :: _, h, _ => by simp at h
  | _ :: _, [], h, _ => by simp at h
theorem rf_L_split {α β : Type} {R : α → β → Prop} : ∀ {as as' : List α} {bs : List β}, rf_L R (as ++ as') bs → ∃ b1 b2, bs = b1 ++ b2 ∧ rf_L R as b1 ∧ rf_L R as' b2
  | [], _, bs, h => ⟨[], bs, rfl, trivial, h⟩
  | _ :: _, _, [], h => h.elim
  | _ :: _, _, b :: _, h => by
    obtain ⟨b1, b2, e, h1, h2⟩ := rf_L_split h.2
    exact ⟨b :: b1, b2, by rw [e]; rfl, ⟨h.1, h1⟩, h2⟩
theorem rf_L_map {α β γ : Type} {R : α → γ → Prop} {f : β → γ} : ∀ {as : List α} {bs : List β}, rf_L (fun a b => R a (f b)) as bs → rf_L R as (bs.map f)
  | [], [], _ => trivial
  | _ :: _, _ :: _, h => ⟨h.1, rf_L_map h.2⟩
  | [], _ :: _, h => h.elim
  | _ :: _, [], h => h.elim
theorem rf_L_rev {α β : Type} {R : α → β → Prop} : ∀ {as : List α} {bs : List β}, rf_L R as bs → rf_L R as.reverse bs.reverse
  | [], [], _ => trivial
  | _ :: _, _ :: _, h => by
    simp only [List.reverse_cons]
    exact rf_L_app (rf_L_rev h.2) ⟨h.1, trivial⟩
  | [], _ :: _, h => h.elim
  | _ :: _, [], h => h.elim

/-! ghosts -/
def rf_r (ρ : List Int) : Nat → Option Int
  | 0 => some 0
  | n + 1 => ρ[n]?
def rf_gi (E : rf_EV) : Nat → Option rf_GI
  | 0 => some (0, 0, false)
  | n + 1 => E.1[n]?
def rf_okE (ρ : List Int) (E : rf_EV) : Prop :=
  (∀ (i : Nat) (q : rf_GI), E.1[i]? = some q → ∃ r, ρ[i]? = some r ∧ q.1 ≤ r ∧ r ≤ q.2.1 ∧ (q.2.2 = true → r ≠ 0)) ∧ ρ.length = E.1.length ∧
  ∀ c ∈ E.2, ∃ a b, rf_r ρ c.1 = some a ∧ rf_r ρ c.2.1 = some b ∧ a ≤ b + c.2.2
theorem rf_r_app {ρ l : List Int} {g : Nat} {r : Int} (h : rf_r ρ g = some r) : rf_r (ρ ++ l) g = some r := by
  cases g with
  | zero => exact h
  | succ n =>
    show (ρ ++ l)[n]? = some r
    have h' : ρ[n]? = some r := h
    rw [List.getElem?_append_left (List.getElem?_eq_some_iff.mp h').1]
    exact h'
theorem rf_gi_spec {ρ : List Int} {E : rf_EV} (h : rf_okE ρ E) {g : Nat} {q : rf_GI} (hq : rf_gi E g = some q) : ∃ r, rf_r ρ g = some r ∧ q.1 ≤ r ∧ r ≤ q.2.1 ∧ (q.2.2 = true → r ≠ 0) := by
  cases g with
  | zero =>
    have e : q = (0, 0, false) := (Option.some.inj hq).symm
    subst e
    exact ⟨0, rfl, Int.le_refl _, Int.le_refl _, fun h => by cases h⟩
  | succ n => exact h.1 n q hq
theorem rf_gi_some {ρ : List Int} {E : rf_EV} (h : rf_okE ρ E) {g : Nat} {r : Int} (hr : rf_r ρ g = some r) : ∃ q, rf_gi E g = some q := by
  cases g with
  | zero => exact ⟨_, rfl⟩
  | succ n =>
    have h' : ρ[n]? = some r := hr
    have hl := (List.getElem?_eq_some_iff.mp h').1
    rw [h.2.1] at hl
    exact ⟨_, List.getElem?_eq_getElem hl⟩
def rf_new (E : rf_EV) (q : rf_GI) : rf_EV := (E.1 ++ [q], E.2)
theorem rf_okE_new {ρ : List Int} {E : rf_EV} (h : rf_okE ρ E) {q : rf_GI} {x : Int} (h1 : q.1 ≤ x) (h2 : x ≤ q.2.1) (h3 : q.2.2 = true → x ≠ 0) :
    rf_okE (ρ ++ [x]) (rf_new E q) ∧ rf_r (ρ ++ [x]) (E.1.length + 1) = some x := by
  have hx : (ρ ++ [x])[E.1.length]? = some x := by
    rw [← h.2.1, List.getElem?_append_right (Nat.le_refl _), Nat.sub_self]
    rfl
  refine ⟨⟨fun i q' hi => ?_, by simp [rf_new, h.2.1], fun c hc => ?_⟩, hx⟩
  · by_cases hl : i < E.1.length
    · have hi' : E.1[i]? = some q' := by
        rw [← hi]
        exact (List.getElem?_append_left hl).symm
      obtain ⟨r, a1, a2⟩ := h.1 i q' hi'
      exact ⟨r, by rw [List.getElem?_append_left (by rw [h.2.1]; exact hl)]; exact a1, a2⟩
    · have hi' : (E.1 ++ [q])[i]? = some q' := hi
      rw [List.getElem?_append_right (by omega)] at hi'
      have hz : i - E.1.length < 1 := (List.getElem?_eq_some_iff.mp hi').1
      have he : i = E.1.length := by omega
      subst he
      rw [Nat.sub_self] at hi'
      have e : q = q' := Option.some.inj hi'
      subst e
      exact ⟨x, hx, h1, h2, h3⟩
  · obtain ⟨a, b, e1, e2, e3⟩ := h.2.2 c hc
    exact ⟨a, b, rf_r_app e1, rf_r_app e2, e3⟩
/-- the ghost g lies within lo .. hi (and isn't 0): none if that can't be -/
def rf_cut (E : rf_EV) (g : Nat) (lo hi : Int) (nz : Bool) : Option rf_EV :=
  match g with
  | 0 => if lo ≤ 0 ∧ 0 ≤ hi ∧ nz = false then some E else none
  | n + 1 => match E.1[n]? with
    | none => none
    | some q =>
      let z := q.2.2 || nz
      let a := if q.1 ≤ lo then lo else q.1
      let b := if hi ≤ q.2.1 then hi else q.2.1
      let a' := if z = true ∧ a = 0 then 1 else a
      let b' := if z = true ∧ b = 0 then -1 else b
      if a' ≤ b' then some (E.1.set n (a', b', z), E.2) else none
theorem rf_cut_spec {ρ : List Int} {E : rf_EV} (h : rf_okE ρ E) {g : Nat} {lo hi r : Int} {nz : Bool} (hr : rf_r ρ g = some r) (h1 : lo ≤ r) (h2 : r ≤ hi) (h3 : nz = true → r ≠ 0) :
    ∃ E', rf_cut E g lo hi nz = some E' ∧ rf_okE ρ E' := by
  cases g with
  | zero =>
    have e : r = 0 := (Option.some.inj hr).symm
    subst e
    have hz : nz = false := by
      cases nz with
      | false => rfl
      | true => exact absurd rfl (h3 rfl)
    exact ⟨E, by simp [rf_cut, h1, h2, hz], h⟩
  | succ n =>
    obtain ⟨q, hq⟩ := rf_gi_some h hr
    have hq' : E.1[n]? = some q := hq
    obtain ⟨r', a1, a2, a3, a4⟩ := h.1 n q hq'
    have e : r' = r := by
      have hr' : ρ[n]? = some r := hr
      rw [hr'] at a1
      exact (Option.some.inj a1).symm
    subst e
    have hz : (q.2.2 || nz) = true → r' ≠ 0 := by
      intro hh
      rcases Bool.or_eq_true _ _ ▸ hh with hh | hh
      · exact a4 hh
      · exact h3 hh
    generalize hz0 : (q.2.2 || nz) = z at hz
    obtain ⟨a, ha, har⟩ : ∃ a, (if q.1 ≤ lo then lo else q.1) = a ∧ a ≤ r' := ⟨_, rfl, by split <;> assumption⟩
    obtain ⟨b, hb, hbr⟩ : ∃ b, (if hi ≤ q.2.1 then hi else q.2.1) = b ∧ r' ≤ b := ⟨_, rfl, by split <;> assumption⟩
    obtain ⟨a', ha', har'⟩ : ∃ a', (if z = true ∧ a = 0 then 1 else a) = a' ∧ a' ≤ r' := by
      refine ⟨_, rfl, ?_⟩
      split
      next hc =>
        have := hz hc.1
        omega
      next => exact har
    obtain ⟨b', hb', hbr'⟩ : ∃ b', (if z = true ∧ b = 0 then -1 else b) = b' ∧ r' ≤ b' := by
      refine ⟨_, rfl, ?_⟩
      split
      next hc =>
        have := hz hc.1
        omega
      next => exact hbr
    refine ⟨(E.1.set n (a', b', z), E.2), ?_, ?_⟩
    · simp only [rf_cut, hq', hz0, ha, hb, ha', hb']
      rw [if_pos (Int.le_trans har' hbr')]
    · have hl := (List.getElem?_eq_some_iff.mp hq').1
      refine ⟨fun i q' hi => ?_, by simp [h.2.1], h.2.2⟩
      by_cases hin : i = n
      · subst hin
        have hi' : (E.1.set i (a', b', z))[i]? = some q' := hi
        rw [List.getElem?_set_self hl] at hi'
        have e := Option.some.inj hi'
        subst e
        exact ⟨r', a1, har', hbr', hz⟩
      · have hi' : (E.1.set n (a', b', z))[i]? = some q' := hi
        rw [List.getElem?_set_ne (Ne.symm hin)] at hi'
        exact h.1 i q' hi'
/-- is 'h at most g and d' already told, with a d too small for 'g at most h and d0' -/
def rf_clash : List (Nat × Nat × Int) → Nat → Nat → Int → Bool
  | [], _, _, _ => false
  | c :: l, g, h, d => (Nat.beq c.1 h && Nat.beq c.2.1 g && decide (c.2.2 + d < 0)) || rf_clash l g h d
theorem rf_clash_spec {ρ : List Int} {g h : Nat} {d a b : Int} (ha : rf_r ρ g = some a) (hb : rf_r ρ h = some b) (hab : a ≤ b + d) :
    ∀ (l : List (Nat × Nat × Int)), (∀ c ∈ l, ∃ a b, rf_r ρ c.1 = some a ∧ rf_r ρ c.2.1 = some b ∧ a ≤ b + c.2.2) → rf_clash l g h d = false
  | [], _ => rfl
  | c :: l, hl => by
    have ih := rf_clash_spec ha hb hab l (fun x hx => hl x (List.mem_cons_of_mem _ hx))
    simp only [rf_clash, ih, Bool.or_false]
    cases hc : (Nat.beq c.1 h && Nat.beq c.2.1 g && decide (c.2.2 + d < 0)) with
    | false => rfl
    | true =>
      simp only [Bool.and_eq_true, decide_eq_true_eq] at hc
      obtain ⟨⟨c1, c2⟩, c3⟩ := hc
      obtain ⟨x, y, e1, e2, e3⟩ := hl c List.mem_cons_self
      rw [Nat.eq_of_beq_eq_true c1, hb] at e1
      rw [Nat.eq_of_beq_eq_true c2, ha] at e2
      cases e1
      cases e2
      omega
/-- told: ghost g is at most ghost h and d -/
def rf_addc (E : rf_EV) (g h : Nat) (d : Int) : Option rf_EV :=
  if Nat.beq g h then (if 0 ≤ d then some E else none)
  else match rf_gi E g, rf_gi E h with
    | some q, some q' => match rf_cut E g q.1 (q'.2.1 + d) false with
      | none => none
      | some E1 => match rf_cut E1 h (q.1 - d) q'.2.1 false with
        | none => none
        | some E2 => if rf_clash E2.2 g h d then none
          else if Nat.beq g 0 || Nat.beq h 0 then some E2 else some (E2.1, (g, h, d) :: E2.2)
    | _, _ => none
theorem rf_addc_spec {ρ : List Int} {E : rf_EV} (hE : rf_okE ρ E) {g h : Nat} {d a b : Int} (ha : rf_r ρ g = some a) (hb : rf_r ρ h = some b) (hab : a ≤ b + d) :
    ∃ E', rf_addc E g h d = some E' ∧ rf_okE ρ E' := by
  unfold rf_addc
  split
  next hgh =>
    have e := Nat.eq_of_beq_eq_true hgh
    subst e
    rw [ha] at hb
    cases hb
    exact ⟨E, by rw [if_pos (by omega)], hE⟩
  next =>
    obtain ⟨q, hq⟩ := rf_gi_some hE ha
    obtain ⟨q', hq'⟩ := rf_gi_some hE hb
    obtain ⟨r, a1, a2, a3, -⟩ := rf_gi_spec hE hq
    obtain ⟨r', b1, b2, b3, -⟩ := rf_gi_spec hE hq'
    rw [ha] at a1
    cases a1
    rw [hb] at b1
    cases b1
    obtain ⟨E1, e1, hE1⟩ := rf_cut_spec hE (lo := q.1) (hi := q'.2.1 + d) (nz := false) ha a2 (by omega) (fun h => by cases h)
    obtain ⟨E2, e2, hE2⟩ := rf_cut_spec hE1 (lo := q.1 - d) (hi := q'.2.1) (nz := false) hb (by omega) b3 (fun h => by cases h)
    simp only [hq, hq', e1, e2]
    rw [rf_clash_spec ha hb hab E2.2 hE2.2.2]
    simp only [Bool.false_eq_true, if_false]
    split
    · exact ⟨E2, rfl, hE2⟩
    · refine ⟨_, rfl, hE2.1, hE2.2.1, fun c hc => ?_⟩
      rcases List.mem_cons.mp hc with rfl | hc
      · exact ⟨a, b, ha, hb, hab⟩
      · exact hE2.2.2 c hc
/-- is 'g at most h and k' told -/
def rf_pin (l : List (Nat × Nat × Int)) (g h : Nat) (k : Int) : Bool := l.any (fun c => Nat.beq c.1 g && (Nat.beq c.2.1 h && decide (c.2.2 ≤ k)))
theorem rf_pin_spec {ρ : List Int} {l : List (Nat × Nat × Int)} (hl : ∀ c ∈ l, ∃ a b, rf_r ρ c.1 = some a ∧ rf_r ρ c.2.1 = some b ∧ a ≤ b + c.2.2) {g h : Nat} {k a b : Int} (ha : rf_r ρ g = some a) (hb : rf_r ρ h = some b) (hp : rf_pin l g h k = true) : a ≤ b + k := by
  obtain ⟨c, c1, c2⟩ := List.any_eq_true.mp hp
  simp only [Bool.and_eq_true, decide_eq_true_eq] at c2
  obtain ⟨x, y, e1, e2, e3⟩ := hl c c1
  rw [Nat.eq_of_beq_eq_true c2.1, ha] at e1
  rw [Nat.eq_of_beq_eq_true c2.2.1, hb] at e2
  cases e1
  cases e2
  have := c2.2.2
  omega
/-- told: ghost g and d isn't ghost h and e -/
def rf_nec (E : rf_EV) (g : Nat) (d : Int) (h : Nat) (e : Int) : Option rf_EV :=
  if Nat.beq g h then (if d = e then none else some E)
  else if rf_pin E.2 g h (e - d) && rf_pin E.2 h g (d - e) then none
  else match rf_gi E g, rf_gi E h with
    | some q, some q' =>
      if q'.1 = q'.2.1 then
        let c := q'.1 + e - d
        rf_cut E g (if q.1 = c then c + 1 else q.1) (if q.2.1 = c then c - 1 else q.2.1) (decide (c = 0))
      else if q.1 = q.2.1 then
        let c := q.1 + d - e
        rf_cut E h (if q'.1 = c then c + 1 else q'.1) (if q'.2.1 = c then c - 1 else q'.2.1) (decide (c = 0))
      else some E
    | _, _ => none
theorem rf_nec_spec {ρ : List Int} {E : rf_EV} (hE : rf_okE ρ E) {g h : Nat} {d e a b : Int} (ha : rf_r ρ g = some a) (hb : rf_r ρ h = some b) (hab : a + d ≠ b + e) :
    ∃ E', rf_nec E g d h e = some E' ∧ rf_okE ρ E' := by
  unfold rf_nec
  split
  next hgh =>
    have e' := Nat.eq_of_beq_eq_true hgh
    subst e'
    rw [ha] at hb
    cases hb
    exact ⟨E, by rw [if_neg (fun z => hab (by rw [z]))], hE⟩
  next =>
    rw [if_neg (fun hp => by
      simp only [Bool.and_eq_true] at hp
      have k1 := rf_pin_spec hE.2.2 ha hb hp.1
      have k2 := rf_pin_spec hE.2.2 hb ha hp.2
      omega)]
    obtain ⟨q, hq⟩ := rf_gi_some hE ha
    obtain ⟨q', hq'⟩ := rf_gi_some hE hb
    obtain ⟨r, a1, a2, a3, -⟩ := rf_gi_spec hE hq
    obtain ⟨r', b1, b2, b3, -⟩ := rf_gi_spec hE hq'
    rw [ha] at a1
    cases a1
    rw [hb] at b1
    cases b1
    simp only [hq, hq']
    split
    next hs =>
      refine rf_cut_spec hE ha ?_ ?_ ?_
      · split <;> omega
      · split <;> omega
      · intro hc
        have := of_decide_eq_true hc
        omega
    next =>
      split
      next hs =>
        refine rf_cut_spec hE hb ?_ ?_ ?_
        · split <;> omega
        · split <;> omega
        · intro hc
          have := of_decide_eq_true hc
          omega
      next => exact ⟨E, rfl, hE⟩

/-! values -/
def rf_gv (ρ : List Int) (ad : List Nat) (xt : Nat → Nat) (a : rf_AV) (v : Value) : Prop :=
  match a.1 with
  | 0 => ∃ x : Int32, v = .int x ∧ ∃ r, rf_r ρ a.2.1 = some r ∧ x.toInt = r + a.2.2
  | 1 => ∃ x : Int64, v = .long x ∧ ∃ r, rf_r ρ a.2.1 = some r ∧ x.toInt = r + a.2.2
  | 2 => ∃ q, ad[a.2.1]? = some q ∧ v = .ref q
  | 3 => v = .null
  | 4 => v = .ref (xt a.2.1)
  | 5 => v = .ref (xt 11) ∧ ∃ r, rf_r ρ a.2.1 = some r ∧ ((xt 12 : Nat) : Int) = r + a.2.2
  | _ => False
theorem rf_gv_app {ρ l : List Int} {ad : List Nat} {xt : Nat → Nat} {a : rf_AV} {v : Value} (h : rf_gv ρ ad xt a v) : rf_gv (ρ ++ l) ad xt a v := by
  unfold rf_gv at h ⊢
  split at h
  · obtain ⟨x, h1, r, h2, h3⟩ := h
    exact ⟨x, h1, r, rf_r_app h2, h3⟩
  · obtain ⟨x, h1, r, h2, h3⟩ := h
    exact ⟨x, h1, r, rf_r_app h2, h3⟩
  · exact h
  · exact h
  · exact h
  · obtain ⟨h1, r, h2, h3⟩ := h
    exact ⟨h1, r, rf_r_app h2, h3⟩
  · exact h
theorem rf_gv_ad {ρ : List Int} {ad l : List Nat} {xt : Nat → Nat} {a : rf_AV} {v : Value} (h : rf_gv ρ ad xt a v) : rf_gv ρ (ad ++ l) xt a v := by
  unfold rf_gv at h ⊢
  split at h
  · exact h
  · exact h
  · obtain ⟨q, h1, h2⟩ := h
    exact ⟨q, by rw [List.getElem?_append_left (List.getElem?_eq_some_iff.mp h1).1]; exact h1, h2⟩
  · exact h
  · exact h
  · exact h
  · exact h
theorem rf_gv_cat {ρ : List Int} {ad : List Nat} {xt : Nat → Nat} {a : rf_AV} {v : Value} (h : rf_gv ρ ad xt a v) : v.category = if a.1 = 1 then 2 else 1 := by
  unfold rf_gv at h
  split at h
  next e => obtain ⟨x, rfl, -⟩ := h; simp [e, Value.category]
  next e => obtain ⟨x, rfl, -⟩ := h; simp [e, Value.category]
  next e => obtain ⟨x, -, rfl⟩ := h; simp [e, Value.category]
  next e => subst h; simp [e, Value.category]
  next e => subst h; simp [e, Value.category]
  next e => obtain ⟨rfl, -⟩ := h; simp [e, Value.category]
  next => exact h.elim
theorem rf_gv_int {ρ : List Int} {ad : List Nat} {xt : Nat → Nat} {g : Nat} {d : Int} {v : Value} (h : rf_gv ρ ad xt (0, g, d) v) : ∃ x : Int32, v = .int x ∧ ∃ r, rf_r ρ g = some r ∧ x.toInt = r + d := h
theorem rf_gv_long {ρ : List Int} {ad : List Nat} {xt : Nat → Nat} {g : Nat} {d : Int} {v : Value} (h : rf_gv ρ ad xt (1, g, d) v) : ∃ x : Int64, v = .long x ∧ ∃ r, rf_r ρ g = some r ∧ x.toInt = r + d := h
theorem rf_gv_ref {ρ : List Int} {ad : List Nat} {xt : Nat → Nat} {k : Nat} {d : Int} {v : Value} (h : rf_gv ρ ad xt (2, k, d) v) : ∃ q, ad[k]? = some q ∧ v = .ref q := h

/-! cells; tys: the array classes by kind -/
def rf_cell (ρ : List Int) (ad : List Nat) (xt : Nat → Nat) (tys : List (ClassId × FieldType)) (c : rf_AC) (e : va_E) : Prop :=
  match c.1 with
  | 0 => ∃ fs, e = .inr (c.2.1, fs) ∧ rf_L (rf_gv ρ ad xt) c.2.2.2.2 fs
  | 1 => ∃ cA ty, tys[c.2.1]? = some (cA, ty) ∧
      ((c.2.1 ≠ 1 ∧ ∃ f : Nat → Int32, e = .inl (cA, c.2.2.1, .inl f) ∧ ∀ j, j < c.2.2.1 → c.2.2.2.1.1 ≤ (f j).toInt ∧ (f j).toInt ≤ c.2.2.2.1.2) ∨
       (c.2.1 = 1 ∧ ∃ f : Nat → Int64, e = .inl (cA, c.2.2.1, .inr (.inl f)) ∧ ∀ j, j < c.2.2.1 → c.2.2.2.1.1 ≤ (f j).toInt ∧ (f j).toInt ≤ c.2.2.2.1.2))
  | 2 => ∃ cA ty, tys[c.2.1]? = some (cA, ty) ∧ ∃ f : Nat → Option Nat, e = .inl (cA, c.2.2.2.2.length, .inr (.inr (.inr (.inr f)))) ∧ ∀ (j : Nat) (a : rf_AV), c.2.2.2.2[j]? = some a → rf_gv ρ ad xt a (va_rf (f j))
  | 3 => ∃ cA ty, tys[c.2.1]? = some (cA, ty) ∧ ∃ f : Nat → Int32, e = .inl (cA, c.2.2.2.2.length, .inl f) ∧ ∀ (j : Nat) (a : rf_AV), c.2.2.2.2[j]? = some a → rf_gv ρ ad xt a (.int (f j))
  | _ => False
theorem rf_cell_mono {ρ ρ' : List Int} {ad ad' : List Nat} {xt : Nat → Nat} {tys : List (ClassId × FieldType)} (hm : ∀ a v, rf_gv ρ ad xt a v → rf_gv ρ' ad' xt a v) {c : rf_AC} {e : va_E} (h : rf_cell ρ ad xt tys c e) : rf_cell ρ' ad' xt tys c e := by
  unfold rf_cell at h ⊢
  split at h
  · obtain ⟨fs, h1, h2⟩ := h
    exact ⟨fs, h1, rf_L_mono hm h2⟩
  · exact h
  · obtain ⟨cA, ty, h0, f, h1, h2⟩ := h
    exact ⟨cA, ty, h0, f, h1, fun j a hj => hm _ _ (h2 j a hj)⟩
  · obtain ⟨cA, ty, h0, f, h1, h2⟩ := h
    exact ⟨cA, ty, h0, f, h1, fun j a hj => hm _ _ (h2 j a hj)⟩
  · exact h
/-! facts -/
def rf_num (ρ : List Int) (a : rf_AV) (x : Int) : Prop := ∃ r, rf_r ρ a.2.1 = some r ∧ x = r + a.2.2
/-- what n steps of a text from place a on make of a pile that is empty at first: how high it is, or none, if it can't be -/
def rf_dep (f g : Nat → Int32) (a : Nat) : Nat → Option Nat
  | 0 => some 0
  | n + 1 => match rf_dep f g a n with
    | none => none
    | some d =>
      if (f (a + n)).toInt = 1 then some (d + 1)
      else if (f (a + n)).toInt = 2 then (if 0 ≤ (g (a + n)).toInt ∧ (g (a + n)).toInt ≤ 5 then some (d + 1) else none)
      else if (f (a + n)).toInt = 3 ∨ (f (a + n)).toInt = 4 then (if 1 ≤ d then some d else none)
      else (if 2 ≤ d then some (d - 1) else none)
/-- the end of a text's n lines (steps from place ba on, lines from place lb on), or none, if one of them can't be worked -/
def rf_lin (f g t u : Nat → Int32) (ba lb : Nat) : Nat → Option Nat
  | 0 => some 0
  | n + 1 => match rf_lin f g t u ba lb n with
    | none => none
    | some s => if (s : Int) ≤ (t (lb + n)).toInt ∧ (t (lb + n)).toInt ≤ (u (lb + n)).toInt ∧ (u (lb + n)).toInt ≤ 130 ∧ ((t (lb + n)).toInt = s ∨ rf_dep f g (ba + s) ((t (lb + n)).toInt.toNat - s) = some 1) ∧ rf_dep f g (ba + (t (lb + n)).toInt.toNat) ((u (lb + n)).toInt.toNat - (t (lb + n)).toInt.toNat) = some 1 then some (u (lb + n)).toInt.toNat else none
def rf_txt (ba lb : Nat) (e1 e2 e3 e4 : va_E) (n s : Int) : Prop := ∃ (c1 c2 c3 c4 : ClassId) (n1 n2 n3 n4 : Nat) (f g t u : Nat → Int32), e1 = .inl (c1, n1, .inl f) ∧ e2 = .inl (c2, n2, .inl g) ∧ e3 = .inl (c3, n3, .inl t) ∧ e4 = .inl (c4, n4, .inl u) ∧ 0 ≤ n ∧ 0 ≤ s ∧ rf_lin f g t u ba lb n.toNat = some s.toNat
/-- a text as it is being read: n lines, ending at step s; the next line's test up to m (none if m is s); what follows up to t makes a pile d - n high -/
def rf_ps (e1 e2 e3 e4 : va_E) (n s m t d : Int) : Prop := ∃ (c1 c2 c3 c4 : ClassId) (n1 n2 n3 n4 : Nat) (f g tt u : Nat → Int32), e1 = .inl (c1, n1, .inl f) ∧ e2 = .inl (c2, n2, .inl g) ∧ e3 = .inl (c3, n3, .inl tt) ∧ e4 = .inl (c4, n4, .inl u) ∧ 0 ≤ n ∧ 0 ≤ s ∧ s ≤ m ∧ m ≤ t ∧ n ≤ d ∧ rf_lin f g tt u 130 61 n.toNat = some s.toNat ∧ (m = s ∨ rf_dep f g (130 + s.toNat) (m.toNat - s.toNat) = some 1) ∧ rf_dep f g (130 + m.toNat) (t.toNat - m.toNat) = some (d - n).toNat
/-- a guest and a thing by one number; what changes() may be told of -/
def rf_gt (x : Int) : Prop := 0 ≤ x ∧ x / 10 ≤ 6 ∧ x % 10 ≤ 3
def rf_may (k x : Int) : Prop := 0 ≤ k ∧ k ≤ 8 ∧ (k ≤ 1 → 0 ≤ x ∧ x ≤ 3) ∧ (2 ≤ k → k ≤ 3 → rf_gt x) ∧ (4 ≤ k → k ≤ 5 → 0 ≤ x ∧ x ≤ 6)
/-! rows told by one number: its digits to the base 2 ^ 64 -/
def rf_sd (d : Int) : Int := if d < 9223372036854775808 then d else d - 18446744073709551616
theorem rf_sd_of {v : Int} (h1 : -9223372036854775808 ≤ v) (h2 : v ≤ 9223372036854775807) : rf_sd (v % 18446744073709551616) = v := by
  unfold rf_sd
  by_cases h : v % 18446744073709551616 < 9223372036854775808
  · rw [if_pos h]
    omega
  · rw [if_neg h]
    omega
def rf_dc : Nat → Int → Int
  | 0, g => rf_sd (g % 18446744073709551616)
  | j + 1, g => rf_dc j (g / 18446744073709551616)
def rf_up : Nat → Int → Int → Int
  | 0, v, g => v % 18446744073709551616 + 18446744073709551616 * (g / 18446744073709551616)
  | i + 1, v, g => g % 18446744073709551616 + 18446744073709551616 * rf_up i v (g / 18446744073709551616)
theorem rf_dc_up {v : Int} (h1 : -9223372036854775808 ≤ v) (h2 : v ≤ 9223372036854775807) : ∀ (i j : Nat) (g : Int), rf_dc j (rf_up i v g) = if j = i then v else rf_dc j g
  | 0, 0, g => by
    rw [if_pos rfl]
    show rf_sd ((v % 18446744073709551616 + 18446744073709551616 * (g / 18446744073709551616)) % 18446744073709551616) = v
    rw [show (v % 18446744073709551616 + 18446744073709551616 * (g / 18446744073709551616)) % 18446744073709551616 = v % 18446744073709551616 by omega]
    exact rf_sd_of h1 h2
  | 0, j + 1, g => by
    rw [if_neg (by omega)]
    show rf_dc j ((v % 18446744073709551616 + 18446744073709551616 * (g / 18446744073709551616)) / 18446744073709551616) = rf_dc j (g / 18446744073709551616)
    congr 1
    omega
  | i + 1, 0, g => by
    rw [if_neg (by omega)]
    show rf_sd ((g % 18446744073709551616 + 18446744073709551616 * rf_up i v (g / 18446744073709551616)) % 18446744073709551616) = rf_sd (g % 18446744073709551616)
    congr 1
    omega
  | i + 1, j + 1, g => by
    show rf_dc j ((g % 18446744073709551616 + 18446744073709551616 * rf_up i v (g / 18446744073709551616)) / 18446744073709551616) = if j + 1 = i + 1 then v else rf_dc j (g / 18446744073709551616)
    have e : (g % 18446744073709551616 + 18446744073709551616 * rf_up i v (g / 18446744073709551616)) / 18446744073709551616 = rf_up i v (g / 18446744073709551616) := by omega
    rw [e, rf_dc_up h1 h2 i j]
    by_cases h : j = i
    · rw [if_pos h, if_pos (by omega)]
    · rw [if_neg h, if_neg (by omega)]
theorem rf_dc_zero : ∀ (j : Nat), rf_dc j 0 = 0
  | 0 => rfl
  | j + 1 => rf_dc_zero j
def rf_big : Nat → Int
  | 0 => 1
  | n + 1 => 18446744073709551616 * rf_big n
theorem rf_up_big : ∀ (n i : Nat) (v g : Int), i < n → 0 ≤ g → g < rf_big n → 0 ≤ rf_up i v g ∧ rf_up i v g < rf_big n
  | 0, i, _, _, h, _, _ => absurd h (by omega)
  | n + 1, 0, v, g, _, h1, h2 => by
    simp only [rf_big, rf_up] at h2 ⊢
    generalize rf_big n = b at h2 ⊢
    omega
  | n + 1, i + 1, v, g, h, h1, h2 => by
    simp only [rf_big, rf_up] at h2 ⊢
    have ih := rf_up_big n i v (g / 18446744073709551616) (by omega) (by omega) (by omega)
    generalize rf_up i v (g / 18446744073709551616) = u at ih ⊢
    generalize rf_big n = b at h2 ih ⊢
    omega
/-- all numbers of rows of at most 375 places are below -/
def rf_BIG : Int := Int.ofNat (2 ^ 24000 - 1)
theorem rf_BIG_lt : rf_BIG < rf_big 375 := by decide +kernel
theorem rf_BIGe : rf_BIG + 1 = rf_big 375 := by decide +kernel
theorem rf_sd_rng (v : Int) : -9223372036854775808 ≤ rf_sd (v % 18446744073709551616) ∧ rf_sd (v % 18446744073709551616) ≤ 9223372036854775807 := by
  unfold rf_sd
  by_cases h : v % 18446744073709551616 < 9223372036854775808
  · rw [if_pos h]
    omega
  · rw [if_neg h]
    omega
theorem rf_dc_rng : ∀ (j : Nat) (g : Int), -9223372036854775808 ≤ rf_dc j g ∧ rf_dc j g ≤ 9223372036854775807
  | 0, g => rf_sd_rng g
  | j + 1, g => rf_dc_rng j _
/-- a row's number with n places from d on as those of another from s on -/
theorem rf_cp_ex {g h : Int} (hg : 0 ≤ g) (hb : g ≤ rf_BIG) (d s : Nat) : ∀ n : Nat, d + n ≤ 375 → ∃ g' : Int, (0 ≤ g' ∧ g' ≤ rf_BIG) ∧ ∀ j : Nat, rf_dc j g' = if d ≤ j ∧ j < d + n then rf_dc (s + (j - d)) h else rf_dc j g
  | 0, _ => ⟨g, ⟨hg, hb⟩, fun j => by rw [if_neg (by omega)]⟩
  | n + 1, hn => by
    obtain ⟨g1, b1, e1⟩ := rf_cp_ex (h := h) hg hb d s n (by omega)
    have hu := rf_up_big 375 (d + n) (rf_dc (s + n) h) g1 (by omega) b1.1 (by rw [← rf_BIGe]; omega)
    rw [← rf_BIGe] at hu
    refine ⟨rf_up (d + n) (rf_dc (s + n) h) g1, ⟨hu.1, by omega⟩, fun j => ?_⟩
    rw [rf_dc_up (rf_dc_rng _ _).1 (rf_dc_rng _ _).2]
    by_cases hj : j = d + n
    · subst hj
      rw [if_pos rfl, if_pos (by omega), Nat.add_sub_cancel_left]
    · rw [if_neg hj, e1 j]
      by_cases hc : d ≤ j ∧ j < d + n
      · rw [if_pos hc, if_pos (by omega)]
      · rw [if_neg hc, if_neg (by omega)]
/-- a row's number by its changes, the latest first -/
def rf_chn : List Int → Int
  | [] => 0
  | [g] => g
  | i :: v :: l => rf_up i.toNat v (rf_chn l)
def rf_ct (e : va_E) (c : Int) : Prop := match e with
  | .inl (_, n, .inl f) => ∀ j, j < n → (f j).toInt = rf_dc j c
  | .inl (_, n, .inr (.inl f)) => ∀ j, j < n → (f j).toInt = rf_dc j c
  | _ => False
/-! numbers as the machine's: 0 +, 1 -, 2 *, 3 its negative, 4 bits that differ, 5 of a long, 6 as a byte, 7 as a short -/
def rf_wop (o : Nat) (a b : Int) : Int := match o with
  | 0 => (a + b).bmod (2 ^ 32)
  | 1 => (a - b).bmod (2 ^ 32)
  | 2 => (a * b).bmod (2 ^ 32)
  | 3 => (-a).bmod (2 ^ 32)
  | 4 => (Int32.ofInt a ^^^ Int32.ofInt b).toInt
  | 5 => a.bmod (2 ^ 32)
  | 6 => a.bmod (2 ^ 8)
  | 7 => a.bmod (2 ^ 16)
  | 8 => (Int64.ofInt a <<< ((Int32.ofInt b).toInt64 &&& 63)).toInt
  | 9 => (Int64.ofInt a &&& Int64.ofInt b).toInt
  | 10 => (Int64.ofInt a ||| Int64.ofInt b).toInt
  | 11 => (Int32.ofInt a &&& Int32.ofInt b).toInt
  | 12 => (Int32.ofInt a ||| Int32.ofInt b).toInt
  | 13 => (Int32.ofInt a <<< (Int32.ofInt b &&& 31)).toInt
  | 14 => (Int32.ofInt a >>> (Int32.ofInt b &&& 31)).toInt
  | 15 => (((Int32.ofInt a).toUInt32 >>> ((Int32.ofInt b).toUInt32 &&& Int32.toUInt32 31)).toInt32).toInt
  | 16 => (Int64.ofInt a + Int64.ofInt b).toInt
  | 17 => (Int64.ofInt a * Int64.ofInt b).toInt
  | 18 => (Int64.ofInt a / Int64.ofInt b).toInt
  | 19 => (Int64.ofInt a - Int64.ofInt a / Int64.ofInt b * Int64.ofInt b).toInt
  | 20 => (Int32.ofInt a / Int32.ofInt b).toInt
  | 21 => (Int32.ofInt a - Int32.ofInt a / Int32.ofInt b * Int32.ofInt b).toInt
  | _ => 0
/-- is a body of kind r of kind k too -/
def rf_und (r k : Nat) : Int := if Nat.beq k 0 || (Nat.beq r k || ((Nat.beq k 1 && Nat.beq r 4) || ((Nat.beq k 2 && (Nat.beq r 3 || Nat.beq r 5)) || ((Nat.beq k 3 && Nat.beq r 5) || (Nat.beq k 6 && Nat.beq r 7))))) then 1 else 0
/-! what holds of the two objects -/
/-- a shelf: what it holds, its body, sort, length; the reference's two numbers -/
def rf_shl (h b so len H Z : Int) : Prop := (h = 0 ∧ H = -1) ∨ (h = 1 ∧ 0 ≤ b ∧ H = b) ∨ (h = 2 ∧ 0 ≤ so ∧ so ≤ 4 ∧ H = -2 - so ∧ Z = len)
/-- what is put in keeps its lowest bits -/
def rf_nr (so v : Int) : Int := if so = 0 then rf_wop 6 (rf_wop 5 v 0) 0 else if so = 1 then rf_wop 7 (rf_wop 5 v 0) 0 else if so = 2 then rf_wop 5 v 0 else if so = 3 then v else if v = 0 then 0 else 1
/-- the guest of the three places from i + 3 k on may come: places of the row of shelf s, l long; g0 were there -/
def rf_gok (G s i l g0 k : Int) : Prop := 0 ≤ i + 3 * k ∧ i + 3 * k + 2 < l ∧ g0 + k < 7 ∧
  (0 ≤ rf_wop 5 (rf_dc (60 * s + i + 3 * k).toNat G) 0 ∧ rf_wop 5 (rf_dc (60 * s + i + 3 * k).toNat G) 0 ≤ 9) ∧
  (0 ≤ rf_wop 5 (rf_dc (60 * s + i + 3 * k + 1).toNat G) 0 ∧ rf_wop 5 (rf_dc (60 * s + i + 3 * k + 1).toNat G) 0 ≤ 50) ∧
  (0 ≤ rf_wop 5 (rf_dc (60 * s + i + 3 * k + 2).toNat G) 0 ∧ rf_wop 5 (rf_dc (60 * s + i + 3 * k + 2).toNat G) 0 ≤ 3)
/-! the house's numbers: the class's row of 81, the reference's rows -/
def rf_fst (w : Int) : Int := if w = 0 then 0 else if w = 1 then 4 else if w = 2 then 8 else if w = 3 then 36 else if w = 4 then 64 else if w = 5 then 71 else if w = 6 then 78 else if w = 7 then 79 else 80
def rf_tops (w : Int) : Int := if w = 0 then 99 else if w = 1 then 9 else if w = 2 then 9 else if w = 3 then 20 else if w = 4 then 50 else if w = 5 then 3 else if w = 6 then 50 else if w = 7 then 999 else if w = 8 then 12 else -1
/-- a guest and a thing by one number: the place among 28, or -1 -/
def rf_pr (n gs : Int) : Int := if 0 ≤ n ∧ n / 10 < gs ∧ n % 10 ≤ 3 then 4 * (n / 10) + n % 10 else -1
/-- the place of what is named by w and n within its own rows, or -1 -/
def rf_ix (n w gs : Int) : Int := if w = 0 ∨ w = 1 then (if 0 ≤ n ∧ n ≤ 3 then n else -1) else if w = 2 ∨ w = 3 then rf_pr n gs else if w = 4 ∨ w = 5 then (if 0 ≤ n ∧ n < gs then n else -1) else if w = 6 ∨ w = 7 ∨ w = 8 then (if n = 0 then 0 else -1) else -1
def rf_pl (n w gs : Int) : Int := if 0 ≤ rf_ix n w gs then rf_fst w + rf_ix n w gs else -1
/-- the spot that a gt means in the reference's rows -/
def rf_sp (w n : Int) : Int := if w = 2 ∨ w = 3 then 4 * (n / 10) + n % 10 else n
def rf_hs (T O W K B S E u p h gs : Int) : Prop :=
  (∀ j : Nat, j < 4 → rf_dc j T = rf_dc j O ∧ rf_dc (4 + j) T = rf_dc j W) ∧
  (∀ j : Nat, j < 28 → ((j : Int) < 4 * gs → rf_dc (8 + j) T = rf_dc j K ∧ rf_dc (36 + j) T = rf_dc j B) ∧ (4 * gs ≤ (j : Int) → rf_dc (36 + j) T = 0)) ∧
  (∀ j : Nat, j < 7 → (j : Int) < gs → rf_dc (64 + j) T = rf_dc j S ∧ rf_dc (71 + j) T = rf_dc j E) ∧
  rf_dc 78 T = u ∧ rf_dc 79 T = p ∧ rf_dc 80 T = h
/-- the reference's number of what w and n name -/
def rf_va (w n O W K B S E u p h : Int) : Int := if w = 0 then rf_dc n.toNat O else if w = 1 then rf_dc n.toNat W else if w = 2 then rf_dc (rf_sp w n).toNat K else if w = 3 then rf_dc (rf_sp w n).toNat B else if w = 4 then rf_dc n.toNat S else if w = 5 then rf_dc n.toNat E else if w = 6 then u else if w = 7 then p else h
/-- what becomes of the reference's rows when w and n become v: row k (0 ought .. 5 believes), numbers 6 to 8 -/
def rf_ly (k w n v X : Int) : Int := if w = k then (if k ≤ 5 then rf_up (rf_sp w n).toNat v X else v) else X
def rf_in0 (j : Nat) : Int := if j < 4 then 50 else if j < 36 then 1 else if j < 64 then 0 else if j < 71 then 5 else if j < 78 then 0 else if j = 78 then 50 else if j = 79 then 20 else 6
/-- what guests out of a row bring: value o (0 to 2) of the k-th -/
def rf_gv3 (G s i k o : Int) : Int := rf_wop 5 (rf_dc (60 * s + i + 3 * k + o).toNat G) 0
/-! who has been there: the class's first finds, the reference's marks -/
def rf_bn (F H gs : Int) : Prop := ∀ k : Nat, k < 7 → (rf_dc (4 * k) F = -1 ∧ rf_dc (13 + k) H = 0) ∨ (rf_dc (4 * k) F ≠ -1 ∧ rf_dc (13 + k) H = 1 ∧ (k : Int) < gs)
def rf_cnt (F : Int) : Nat → Int
  | 0 => 0
  | k + 1 => rf_cnt F k + (if rf_dc (4 * k) F = -1 then 0 else 1)
def rf_sum (H : Int) : Nat → Int
  | 0 => 0
  | k + 1 => rf_sum H k + rf_dc (13 + k) H
def rf_XQ (k : Nat) (xs : List Int) : Prop := match k, xs with
  | 0, [h, b, so, len, GH, GZ, s] => rf_shl h b so len (rf_dc s.toNat GH) (rf_dc s.toNat GZ)
  | 1, [g, G, o, n] => ∀ j : Nat, (j : Int) < n → rf_dc j g = rf_dc (o.toNat + j) G
  | 2, [h, b, N] => h = 1 → b + 1 ≤ N
  | 3, [r, k, z] => z = rf_und r.toNat k.toNat
  | 4, [h, n, g, G, s] => h = 2 → ∀ j : Nat, (j : Int) < n → rf_dc j g = rf_dc (60 * s.toNat + j) G
  | 5, [g, a, b] => ∀ j : Nat, a ≤ (j : Int) → (j : Int) < b → rf_dc j g = 0
  | 6, [g', g, h, d, s, n] => ∀ j : Nat, j ≤ 374 → rf_dc j g' = if d ≤ (j : Int) ∧ (j : Int) < d + n then rf_dc (s + ((j : Int) - d)).toNat h else rf_dc j g
  | 7, [g', g, a, b] => ∀ j : Nat, ¬ (a ≤ (j : Int) ∧ (j : Int) < b) → rf_dc j g' = rf_dc j g
  | 8, [so, v, w] => w = rf_nr so v
  | 9, [r, G, s, i] => r = rf_dc (60 * s + i).toNat G
  | 10, [g', g, G, d, s, i, n] => ∀ j : Nat, j ≤ 374 → rf_dc j g' = if d ≤ (j : Int) ∧ (j : Int) < d + n then rf_dc (60 * s + i + ((j : Int) - d)).toNat G else rf_dc j g
  | 11, [c, G, s, i, n, l, g0] => 0 ≤ c ∧ c ≤ n ∧ ∀ k : Int, 0 ≤ k → k < c → rf_gok G s i l g0 k
  | 12, [c, G, s, i, n, l, g0] => c = n ∨ ¬ rf_gok G s i l g0 c
  | 13, [a, i, c] => a = i + 3 * c
  | 14, [T, O, W, K, B, S, E, u, p, h, gs] => rf_hs T O W K B S E u p h gs
  | 15, [T', T, gs, a, b, c] => ∀ j : Nat, j ≤ 80 → rf_dc j T' = if 8 + 4 * gs ≤ (j : Int) ∧ (j : Int) < 12 + 4 * gs then a else if (j : Int) = 64 + gs then b else if (j : Int) = 71 + gs then c else rf_dc j T
  | 16, [K', B', S', E', K, B, S, E, gs, a, b, c] => (∀ j : Nat, j < 28 → rf_dc j K' = (if 4 * gs ≤ (j : Int) ∧ (j : Int) < 4 * gs + 4 then a else rf_dc j K) ∧ rf_dc j B' = (if 4 * gs ≤ (j : Int) ∧ (j : Int) < 4 * gs + 4 then 0 else rf_dc j B)) ∧ ∀ j : Nat, j < 7 → rf_dc j S' = (if (j : Int) = gs then b else rf_dc j S) ∧ rf_dc j E' = (if (j : Int) = gs then c else rf_dc j E)
  | 17, [T', T, gs, c, G, s, i] => ∀ j : Nat, j ≤ 80 → rf_dc j T' = if 8 + 4 * gs ≤ (j : Int) ∧ (j : Int) < 8 + 4 * (gs + c) then rf_gv3 G s i (((j : Int) - 8) / 4 - gs) 0 else if 64 + gs ≤ (j : Int) ∧ (j : Int) < 64 + gs + c then rf_gv3 G s i ((j : Int) - 64 - gs) 1 else if 71 + gs ≤ (j : Int) ∧ (j : Int) < 71 + gs + c then rf_gv3 G s i ((j : Int) - 71 - gs) 2 else rf_dc j T
  | 18, [K', B', S', E', K, B, S, E, gs, c, G, s, i] => (∀ j : Nat, j < 28 → rf_dc j K' = (if 4 * gs ≤ (j : Int) ∧ (j : Int) < 4 * (gs + c) then rf_gv3 G s i ((j : Int) / 4 - gs) 0 else rf_dc j K) ∧ rf_dc j B' = (if 4 * gs ≤ (j : Int) ∧ (j : Int) < 4 * (gs + c) then 0 else rf_dc j B)) ∧ ∀ j : Nat, j < 7 → rf_dc j S' = (if gs ≤ (j : Int) ∧ (j : Int) < gs + c then rf_gv3 G s i ((j : Int) - gs) 1 else rf_dc j S) ∧ rf_dc j E' = (if gs ≤ (j : Int) ∧ (j : Int) < gs + c then rf_gv3 G s i ((j : Int) - gs) 2 else rf_dc j E)
  | 19, [n, w, gs, p] => p = rf_pl n w gs
  | 20, [n, w, gs, r] => r = if 0 ≤ rf_ix n w gs then 1 else 0
  | 21, [n, gs, p] => p = rf_pr n gs
  | 23, [r, w, n, O, W, K, B, S, E, u, p, h] => r = rf_va w n O W K B S E u p h
  | 26, [w, v, r] => r = if 0 ≤ v ∧ v ≤ rf_tops w then 1 else 0
  | 27, [T] => ∀ j : Nat, j < 81 → rf_dc j T = rf_in0 j
  | 28, [g, v, n] => ∀ j : Nat, (j : Int) < n → rf_dc j g = v
  | 29, [P, C, A, n, gs] => ∀ j : Nat, (j : Int) < n → 0 ≤ rf_dc j P ∧ rf_dc j P = rf_pl (rf_dc j A) (rf_dc j C) gs
  | 30, [f, h, a, b] => ∀ j : Nat, a ≤ (j : Int) → (j : Int) < b → rf_dc j f = rf_dc j h
  | 34, [F, H, gs] => rf_bn F H gs
  | 35, [H', H, g] => ∀ j : Nat, 13 ≤ j → j < 20 → rf_dc j H' = if (j : Int) = 13 + g then 1 else rf_dc j H
  | 36, [F', F, g] => ∀ k : Nat, k < 7 → ((k : Int) ≠ g → rf_dc (4 * k) F' = rf_dc (4 * k) F) ∧ ((k : Int) = g → rf_dc (4 * k) F' ≠ -1)
  | 37, [F, k, n] => n = rf_cnt F k.toNat
  | 38, [H, k, n] => n = rf_sum H k.toNat
  | 39, [F', F, g, t] => ∀ k : Nat, k < 7 → ((k : Int) ≠ g → rf_dc (4 * k) F' = rf_dc (4 * k) F) ∧ ((k : Int) = g → 1 ≤ t → rf_dc (4 * k) F' ≠ -1)
  | 42, [F', F, g] => ∀ k : Nat, k < 7 → rf_dc (4 * k) F' = if (k : Int) = g then -1 else rf_dc (4 * k) F
  | 43, [F', F, g, t] => ∀ k : Nat, k < 7 → ((k : Int) ≠ g → rf_dc (4 * k) F' = rf_dc (4 * k) F) ∧ ((k : Int) = g → 1 ≤ t → rf_dc (4 * k) F' = -1)
  | 44, [H', H, g] => ∀ j : Nat, 13 ≤ j → j < 20 → rf_dc j H' = if (j : Int) = 13 + g then 0 else rf_dc j H
  | 45, [F] => ∀ j : Nat, j < 28 → rf_dc j F = -1
  | 46, [H] => ∀ j : Nat, 8 ≤ j → j < 48 → rf_dc j H = 0
  | 31, [n, gs, r] => r = if 0 ≤ rf_pr n gs then 1 else 0
  | 32, [n, p] => 0 ≤ n ∧ p = 4 * (n / 10) + n % 10
  | 33, [w, n, v, O', W', K', B', S', E', u', p', h', O, W, K, B, S, E, u, p, h] => O' = rf_ly 0 w n v O ∧ W' = rf_ly 1 w n v W ∧ K' = rf_ly 2 w n v K ∧ B' = rf_ly 3 w n v B ∧ S' = rf_ly 4 w n v S ∧ E' = rf_ly 5 w n v E ∧ u' = rf_ly 6 w n v u ∧ p' = rf_ly 7 w n v p ∧ h' = rf_ly 8 w n v h
  | _, _ => False
/-- the facts' meanings, by kind: 1 a place of a row holds v; 2, 3 a quotient, a remainder; 4 a gt; 5 a change's kind and number; 6 rows of changes; 7 a text's steps; 8, 10, 11 a difference, a sum, a product; 9 a sum that isn't above -/
def rf_XP (xt : Nat → Nat) (k : Nat) (es : List (Option va_E)) (xs : List Int) : Prop :=
  match k, es, xs with
  | 1, [some e], [i, v] => ∃ (cA : ClassId) (n : Nat) (f : Nat → Int32), e = .inl (cA, n, .inl f) ∧ 0 ≤ i ∧ (f i.toNat).toInt = v
  | 2, [], [x, y, z] => z = x.tdiv y
  | 3, [], [x, y, z] => z = x.tmod y
  | 4, [], [x] => rf_gt x
  | 8, [], [x, y, z] => z = x - y
  | 9, [], [x, y, z] => x + y ≤ z
  | 10, [], [x, y, z] => z = x + y
  | 11, [], [x, y, z] => z = x * y
  | 5, [], [k, x] => rf_may k x
  | 6, [some e1, some e2], [n] => ∃ (c1 c2 : ClassId) (n1 n2 : Nat) (f g : Nat → Int32), e1 = .inl (c1, n1, .inl f) ∧ e2 = .inl (c2, n2, .inl g) ∧ ∀ j : Nat, (j : Int) < n → rf_may (f j).toInt (g j).toInt
  | 7, [some e1, some e2], [a, b, d] => ∃ (c1 c2 : ClassId) (n1 n2 : Nat) (f g : Nat → Int32), e1 = .inl (c1, n1, .inl f) ∧ e2 = .inl (c2, n2, .inl g) ∧ 0 ≤ a ∧ a ≤ b ∧ 0 ≤ d ∧ rf_dep f g a.toNat (b - a).toNat = some d.toNat
  | 16, [some e1, some e2], [a, b, d] => ∃ (c1 c2 : ClassId) (n1 n2 : Nat) (f g : Nat → Int32), e1 = .inl (c1, n1, .inl f) ∧ e2 = .inl (c2, n2, .inl g) ∧ 0 ≤ a ∧ a ≤ b ∧ 0 ≤ d ∧ rf_dep f g a.toNat (b - a).toNat = some d.toNat
  | 19, [], [i, v] => 0 ≤ i ∧ v = ((xt (13 + i.toNat) : Nat) : Int) - 2147483648
  | 18, [some e1, some e2, some e3, some e4], [n, s, m, t, d] => rf_ps e1 e2 e3 e4 n s m t d
  | 12, [some e1, some e2, some e3, some e4], [n, s] => rf_txt 130 61 e1 e2 e3 e4 n s
  | 14, [some e1, some e2, some e3, some e4], [n, s] => rf_txt 0 0 e1 e2 e3 e4 n s
  | 15, [some e1, some e2, some e3, some e4], [n, s] => rf_txt 0 0 e1 e2 e3 e4 n s
  | 13, [some e1, some e2], [k, o] => ∃ (c1 c2 : ClassId) (n1 n2 : Nat) (f g : Nat → Int32), e1 = .inl (c1, n1, .inl f) ∧ e2 = .inl (c2, n2, .inl g) ∧ 0 ≤ o ∧ ∀ j : Nat, (j : Int) < k → f j = f (o.toNat + j) ∧ g j = g (o.toNat + j)
  | 17, [some e1, some e2], [i] => ∃ (c1 c2 : ClassId) (n1 n2 : Nat) (f g : Nat → Int32), e1 = .inl (c1, n1, .inl f) ∧ e2 = .inl (c2, n2, .inl g) ∧ ∀ j : Nat, (j : Int) < 40 → (j : Int) ≠ i → rf_may (f j).toInt (g j).toInt
  | 30, [some e], xs => rf_ct e (rf_chn xs)
  | 36, [], i :: r :: xs => 0 ≤ i ∧ r = rf_dc i.toNat (rf_chn xs)
  | 31, [], [h, g, i, v] => 0 ≤ i ∧ h = rf_up i.toNat v g
  | 41, [], h :: xs => h = rf_chn xs
  | 33, [], [x, y, z] => z + 1 ≤ x + y
  | 35, [], [o, a, b, r] => r = rf_wop o.toNat a b
  | 40, [], k :: xs => rf_XQ k.toNat xs
  | 99, [], [_] => True
  | _, _, _ => False
theorem rf_XP_some {xt : Nat → Nat} {k : Nat} {es : List (Option va_E)} {xs : List Int} (h : rf_XP xt k es xs) : ∀ x ∈ es, ∃ e, x = some e := by
  intro x hx
  unfold rf_XP at h
  split at h <;> first
    | exact h.elim
    | (simp only [List.mem_cons, List.not_mem_nil, or_false] at hx; rcases hx with rfl | rfl | rfl | rfl <;> exact ⟨_, rfl⟩)
    | (simp only [List.mem_cons, List.not_mem_nil, or_false] at hx; rcases hx with rfl | rfl <;> exact ⟨_, rfl⟩)
    | (simp only [List.mem_cons, List.not_mem_nil, or_false] at hx; exact ⟨_, hx⟩)
    | (simp only [List.not_mem_nil] at hx)
def rf_fact (xt : Nat → Nat) (ρ : List Int) (es : List va_E) (f : rf_FC) : Prop := ∃ xs, rf_L (rf_num ρ) f.2.2 xs ∧ rf_XP xt f.1 (f.2.1.map (fun k => es[k]?)) xs
def rf_facts (xt : Nat → Nat) (ρ : List Int) (es : List va_E) (fs : List rf_FC) : Prop := ∀ f ∈ fs, rf_fact xt ρ es f
theorem rf_num_app {ρ l : List Int} {a : rf_AV} {x : Int} (h : rf_num ρ a x) : rf_num (ρ ++ l) a x := by
  obtain ⟨r, h1, h2⟩ := h
  exact ⟨r, rf_r_app h1, h2⟩
theorem rf_facts_app {xt : Nat → Nat} {ρ l : List Int} {es : List va_E} {fs : List rf_FC} (h : rf_facts xt ρ es fs) : rf_facts xt (ρ ++ l) es fs := by
  intro f hf
  obtain ⟨xs, h1, h2⟩ := h f hf
  exact ⟨xs, rf_L_mono (fun _ _ k => rf_num_app k) h1, h2⟩
theorem rf_facts_more {xt : Nat → Nat} {ρ : List Int} {es l : List va_E} {fs : List rf_FC} (h : rf_facts xt ρ es fs) : rf_facts xt ρ (es ++ l) fs := by
  intro f hf
  obtain ⟨xs, h1, h2⟩ := h f hf
  refine ⟨xs, h1, ?_⟩
  have e : f.2.1.map (fun k => (es ++ l)[k]?) = f.2.1.map (fun k => es[k]?) := by
    apply List.map_congr_left
    intro k hk
    obtain ⟨e, he⟩ := rf_XP_some h2 (es[k]?) (List.mem_map.mpr ⟨k, hk, rfl⟩)
    rw [List.getElem?_append_left (List.getElem?_eq_some_iff.mp he).1]
  rw [e]
  exact h2
def rf_loc (ρ : List Int) (ad : List Nat) (xt : Nat → Nat) (q : Nat × rf_AV) (w : Nat × Value) : Prop := q.1 = w.1 ∧ rf_gv ρ ad xt q.2 w.2
/-- a state of the machine as the picture S has it; ρ0: the ghosts and the cells that stood at the beginning -/
def rf_Rel (D : va_G) (cl : List vw_C) (tys : List (ClassId × FieldType)) (A : Nat → Prop) (H0 : Heap) (xt : Nat → Nat) (nL : Nat) (ρ0 : List Int × List Nat) (S : rf_AS) (ρ : List Int) (ad : List Nat) (ws : va_W) (H : Heap) (locs : List Loc) (ls : Array Slot) (st : List Value) : Prop :=
  ((∃ l, ρ = ρ0.1 ++ l) ∧ ∃ l, ad = ρ0.2 ++ l) ∧ rf_okE ρ S.1 ∧ ws.map Prod.fst = ad ∧ rf_L (rf_cell ρ ad xt tys) S.2.2.2.1 (ws.map Prod.snd) ∧ (va_P D cl ws H ∧ va_D A ws ∧ va_S A H0 H locs ∧ rf_facts xt ρ (ws.map Prod.snd) S.2.2.2.2.1) ∧
  (∃ lv, lv_has ls nL lv ∧ rf_L (rf_loc ρ ad xt) S.2.1 lv) ∧ rf_L (rf_gv ρ ad xt) S.2.2.1 st
