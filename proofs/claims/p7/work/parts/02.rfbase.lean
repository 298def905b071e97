/-! THE CHECKER, its words. A ghost is a number that isn't known: ghost 0 is the number 0, ghost n + 1 the n-th of the list ρ.
A value's picture is (tag, ghost or place, offset); tags: 0 int, 1 long, 2 cell of the world, 3 null, 4 constant cell. -/
abbrev rf_GI : Type := Int × Int × Bool
abbrev rf_EV : Type := List rf_GI × List (Nat × Nat × Int)
abbrev rf_AV : Type := Nat × Nat × Int
/-- (sort, a, b, (lo, hi), values); sorts: 0 object of class a; 1 row of kind a, b long, all within lo .. hi; 2 row of references of kind a; 3 row of ints of kind a, each told -/
abbrev rf_AC : Type := Nat × Nat × Nat × (Int × Int) × List rf_AV
abbrev rf_LC : Type := List (Nat × rf_AV)
/-- a fact: its kind, cells of the world that it speaks of, numbers that it speaks of -/
abbrev rf_FC : Type := Nat × List Nat × List rf_AV
/-- facts, cells made, slots made -/
abbrev rf_T : Type := List rf_FC × Nat × Nat
/-- ghosts, locals, stack, world, the rest -/
abbrev rf_AS : Type := rf_EV × rf_LC × List rf_AV × List rf_AC × rf_T

def rf_L {α β : Type} (R : α → β → Prop) : List α → List β → Prop
  | [], [] => True
  | a :: as, b :: bs => R a b ∧ rf_L R as bs
  | _, _ => False
theorem rf_L_len {α β : Type} {R : α → β → Prop} : ∀ {as : List α} {bs : List β}, rf_L R as bs → as.length = bs.length
  | [], [], _ => rfl
  | _ :: _, _ :: _, h => by simp only [List.length_cons, rf_L_len h.2]
  | [], _ :: _, h => h.elim
  | _ :: _, [], h => h.elim
theorem rf_L_get {α β : Type} {R : α → β → Prop} : ∀ {as : List α} {bs : List β}, rf_L R as bs → ∀ {i : Nat} {a : α}, as[i]? = some a → ∃ b, bs[i]? = some b ∧ R a b
  | [], [], _, i, a, e => by simp at e
  | x :: _, y :: _, h, 0, a, e => by
    simp only [List.getElem?_cons_zero, Option.some.injEq] at e
    subst e
    exact ⟨y, rfl, h.1⟩
  | _ :: _, _ :: _, h, i + 1, a, e => by
    simp only [List.getElem?_cons_succ] at e
    obtain ⟨b, h1, h2⟩ := rf_L_get h.2 e
    exact ⟨b, by simpa using h1, h2⟩
  | [], _ :: _, h, _, _, _ => h.elim
  | _ :: _, [], h, _, _, _ => h.elim
theorem rf_L_set {α β : Type} {R : α → β → Prop} {a : α} {b : β} (hab : R a b) : ∀ {as : List α} {bs : List β}, rf_L R as bs → ∀ i : Nat, rf_L R (as.set i a) (bs.set i b)
  | [], [], _, _ => trivial
  | _ :: _, _ :: _, h, 0 => ⟨hab, h.2⟩
  | _ :: _, _ :: _, h, i + 1 => ⟨h.1, rf_L_set hab h.2 i⟩
  | [], _ :: _, h, _ => h.elim
  | _ :: _, [], h, _ => h.elim
theorem rf_L_mono {α β : Type} {R R' : α → β → Prop} (hR : ∀ a b, R a b → R' a b) : ∀ {as : List α} {bs : List β}, rf_L R as bs → rf_L R' as bs
  | [], [], _ => trivial
  | _ :: _, _ :: _, h => ⟨hR _ _ h.1, rf_L_mono hR h.2⟩
  | [], _ :: _, h => h.elim
  | _ :: _, [], h => h.elim
theorem rf_L_app {α β : Type} {R : α → β → Prop} : ∀ {as : List α} {bs : List β} {as' : List α} {bs' : List β}, rf_L R as bs → rf_L R as' bs' → rf_L R (as ++ as') (bs ++ bs')
  | [], [], _, _, _, h' => h'
  | _ :: _, _ :: _, _, _, h, h' => ⟨h.1, rf_L_app h.2 h'⟩
  | [], _ :: _, _, _, h, _ => h.elim
  | _ :: _, [], _, _, h, _ => h.elim
theorem rf_L_filter {α β : Type} {R : α → β → Prop} {f : α → Bool} {g : β → Bool} (hfg : ∀ a b, R a b → f a = g b) : ∀ {as : List α} {bs : List β}, rf_L R as bs → rf_L R (as.filter f) (bs.filter g)
  | [], [], _ => trivial
  | a :: as, b :: bs, h => by
    have e := hfg a b h.1
    have t := rf_L_filter hfg h.2
    cases hg : g b with
    | true =>
      rw [hg] at e
      rw [List.filter_cons_of_pos e, List.filter_cons_of_pos hg]
      exact ⟨h.1, t⟩
    | false =>
      rw [hg] at e
      rw [List.filter_cons_of_neg (by simp [e]), List.filter_cons_of_neg (by simp [hg])]
      exact t
  | [], _ :: _, h => h.elim
  | _ :: _, [], h => h.elim
theorem rf_L_of {α β : Type} {R : α → β → Prop} : ∀ {as : List α} {bs : List β}, as.length = bs.length → (∀ (i : Nat) (a : α) (b : β), as[i]? = some a → bs[i]? = some b → R a b) → rf_L R as bs
  | [], [], _, _ => trivial
  | _ :: _, _ :: _, h, k => ⟨k 0 _ _ rfl rfl, rf_L_of (by simpa using h) (fun i a b h1 h2 => k (i + 1) a b (by simpa using h1) (by simpa using h2))⟩
  | [], _ :: _, h, _ => by simp at h
  | _ :: _, [], h, _ => by simp at h
theorem rf_L_split {α β : Type} {R : α → β → Prop} : ∀ {as as' : List α} {bs : List β}, rf_L R (as ++ as') bs → ∃ b1 b2, bs = b1 ++ b2 ∧ rf_L R as b1 ∧ rf_L R as' b2
  | [], _, bs, h => ⟨[], bs, rfl, trivial, h⟩
  | _ :: _, _, [], h => h.elim
  | _ :: _, _, b :: _, h => by
    obtain ⟨b1, b2, e, h1, h2⟩ := rf_L_split h.2
    exact ⟨b :: b1, b2, by rw [e]; rfl, ⟨h.1, h1⟩, h2⟩
theorem rf_L_map {α β γ : Type} {R : α → γ → Prop} {f : β → γ} : ∀ {as : List α} {bs : List β}, rf_L (fun a b => R a (f b)) as bs → rf_L R as (bs.map f)
  | [], [], _ => trivial
  | _ :: _, _ :: _, h => ⟨h.1, rf_L_map h.2⟩
  | [], _ :: _, h => h.elim
  | _ :: _, [], h => h.elim
theorem rf_L_rev {α β : Type} {R : α → β → Prop} : ∀ {as : List α} {bs : List β}, rf_L R as bs → rf_L R as.reverse bs.reverse
  | [], [], _ => trivial
  | _ :: _, _ :: _, h => by
    simp only [List.reverse_cons]
    exact rf_L_app (rf_L_rev h.2) ⟨h.1, trivial⟩
  | [], _ :: _, h => h.elim
  | _ :: _, [], h => h.elim

/-! ghosts -/
def rf_r (ρ : List Int) : Nat → Option Int
  | 0 => some 0
  | n + 1 => ρ[n]?
def rf_gi (E : rf_EV) : Nat → Option rf_GI
  | 0 => some (0, 0, false)
  | n + 1 => E.1[n]?
def rf_okE (ρ : List Int) (E : rf_EV) : Prop :=
  (∀ (i : Nat) (q : rf_GI), E.1[i]? = some q → ∃ r, ρ[i]? = some r ∧ q.1 ≤ r ∧ r ≤ q.2.1 ∧ (q.2.2 = true → r ≠ 0)) ∧ ρ.length = E.1.length ∧
  ∀ c ∈ E.2, ∃ a b, rf_r ρ c.1 = some a ∧ rf_r ρ c.2.1 = some b ∧ a ≤ b + c.2.2
theorem rf_r_app {ρ l : List Int} {g : Nat} {r : Int} (h : rf_r ρ g = some r) : rf_r (ρ ++ l) g = some r := by
  cases g with
  | zero => exact h
  | succ n =>
    show (ρ ++ l)[n]? = some r
    have h' : ρ[n]? = some r := h
    rw [List.getElem?_append_left (List.getElem?_eq_some_iff.mp h').1]
    exact h'
theorem rf_gi_spec {ρ : List Int} {E : rf_EV} (h : rf_okE ρ E) {g : Nat} {q : rf_GI} (hq : rf_gi E g = some q) : ∃ r, rf_r ρ g = some r ∧ q.1 ≤ r ∧ r ≤ q.2.1 ∧ (q.2.2 = true → r ≠ 0) := by
  cases g with
  | zero =>
    have e : q = (0, 0, false) := (Option.some.inj hq).symm
    subst e
    exact ⟨0, rfl, Int.le_refl _, Int.le_refl _, fun h => by cases h⟩
  | succ n => exact h.1 n q hq
theorem rf_gi_some {ρ : List Int} {E : rf_EV} (h : rf_okE ρ E) {g : Nat} {r : Int} (hr : rf_r ρ g = some r) : ∃ q, rf_gi E g = some q := by
  cases g with
  | zero => exact ⟨_, rfl⟩
  | succ n =>
    have h' : ρ[n]? = some r := hr
    have hl := (List.getElem?_eq_some_iff.mp h').1
    rw [h.2.1] at hl
    exact ⟨_, List.getElem?_eq_getElem hl⟩
def rf_new (E : rf_EV) (q : rf_GI) : rf_EV := (E.1 ++ [q], E.2)
theorem rf_okE_new {ρ : List Int} {E : rf_EV} (h : rf_okE ρ E) {q : rf_GI} {x : Int} (h1 : q.1 ≤ x) (h2 : x ≤ q.2.1) (h3 : q.2.2 = true → x ≠ 0) :
    rf_okE (ρ ++ [x]) (rf_new E q) ∧ rf_r (ρ ++ [x]) (E.1.length + 1) = some x := by
  have hx : (ρ ++ [x])[E.1.length]? = some x := by
    rw [← h.2.1, List.getElem?_append_right (Nat.le_refl _), Nat.sub_self]
    rfl
  refine ⟨⟨fun i q' hi => ?_, by simp [rf_new, h.2.1], fun c hc => ?_⟩, hx⟩
  · by_cases hl : i < E.1.length
    · have hi' : E.1[i]? = some q' := by
        rw [← hi]
        exact (List.getElem?_append_left hl).symm
      obtain ⟨r, a1, a2⟩ := h.1 i q' hi'
      exact ⟨r, by rw [List.getElem?_append_left (by rw [h.2.1]; exact hl)]; exact a1, a2⟩
    · have hi' : (E.1 ++ [q])[i]? = some q' := hi
      rw [List.getElem?_append_right (by omega)] at hi'
      have hz : i - E.1.length < 1 := (List.getElem?_eq_some_iff.mp hi').1
      have he : i = E.1.length := by omega
      subst he
      rw [Nat.sub_self] at hi'
      have e : q = q' := Option.some.inj hi'
      subst e
      exact ⟨x, hx, h1, h2, h3⟩
  · obtain ⟨a, b, e1, e2, e3⟩ := h.2.2 c hc
    exact ⟨a, b, rf_r_app e1, rf_r_app e2, e3⟩
/-- the ghost g lies within lo .. hi (and isn't 0): none if that can't be -/
def rf_cut (E : rf_EV) (g : Nat) (lo hi : Int) (nz : Bool) : Option rf_EV :=
  match g with
  | 0 => if lo ≤ 0 ∧ 0 ≤ hi ∧ nz = false then some E else none
  | n + 1 => match E.1[n]? with
    | none => none
    | some q =>
      let z := q.2.2 || nz
      let a := if q.1 ≤ lo then lo else q.1
      let b := if hi ≤ q.2.1 then hi else q.2.1
      let a' := if z = true ∧ a = 0 then 1 else a
      let b' := if z = true ∧ b = 0 then -1 else b
      if a' ≤ b' then some (E.1.set n (a', b', z), E.2) else none
theorem rf_cut_spec {ρ : List Int} {E : rf_EV} (h : rf_okE ρ E) {g : Nat} {lo hi r : Int} {nz : Bool} (hr : rf_r ρ g = some r) (h1 : lo ≤ r) (h2 : r ≤ hi) (h3 : nz = true → r ≠ 0) :
    ∃ E', rf_cut E g lo hi nz = some E' ∧ rf_okE ρ E' := by
  cases g with
  | zero =>
    have e : r = 0 := (Option.some.inj hr).symm
    subst e
    have hz : nz = false := by
      cases nz with
      | false => rfl
      | true => exact absurd rfl (h3 rfl)
    exact ⟨E, by simp [rf_cut, h1, h2, hz], h⟩
  | succ n =>
    obtain ⟨q, hq⟩ := rf_gi_some h hr
    have hq' : E.1[n]? = some q := hq
    obtain ⟨r', a1, a2, a3, a4⟩ := h.1 n q hq'
    have e : r' = r := by
      have hr' : ρ[n]? = some r := hr
      rw [hr'] at a1
      exact (Option.some.inj a1).symm
    subst e
    have hz : (q.2.2 || nz) = true → r' ≠ 0 := by
      intro hh
      rcases Bool.or_eq_true _ _ ▸ hh with hh | hh
      · exact a4 hh
      · exact h3 hh
    generalize hz0 : (q.2.2 || nz) = z at hz
    obtain ⟨a, ha, har⟩ : ∃ a, (if q.1 ≤ lo then lo else q.1) = a ∧ a ≤ r' := ⟨_, rfl, by split <;> assumption⟩
    obtain ⟨b, hb, hbr⟩ : ∃ b, (if hi ≤ q.2.1 then hi else q.2.1) = b ∧ r' ≤ b := ⟨_, rfl, by split <;> assumption⟩
    obtain ⟨a', ha', har'⟩ : ∃ a', (if z = true ∧ a = 0 then 1 else a) = a' ∧ a' ≤ r' := by
      refine ⟨_, rfl, ?_⟩
      split
      next hc =>
        have := hz hc.1
        omega
      next => exact har
    obtain ⟨b', hb', hbr'⟩ : ∃ b', (if z = true ∧ b = 0 then -1 else b) = b' ∧ r' ≤ b' := by
      refine ⟨_, rfl, ?_⟩
      split
      next hc =>
        have := hz hc.1
        omega
      next => exact hbr
    refine ⟨(E.1.set n (a', b', z), E.2), ?_, ?_⟩
    · simp only [rf_cut, hq', hz0, ha, hb, ha', hb']
      rw [if_pos (Int.le_trans har' hbr')]
    · have hl := (List.getElem?_eq_some_iff.mp hq').1
      refine ⟨fun i q' hi => ?_, by simp [h.2.1], h.2.2⟩
      by_cases hin : i = n
      · subst hin
        have hi' : (E.1.set i (a', b', z))[i]? = some q' := hi
        rw [List.getElem?_set_self hl] at hi'
        have e := Option.some.inj hi'
        subst e
        exact ⟨r', a1, har', hbr', hz⟩
      · have hi' : (E.1.set n (a', b', z))[i]? = some q' := hi
        rw [List.getElem?_set_ne (Ne.symm hin)] at hi'
        exact h.1 i q' hi'
/-- is 'h at most g and d' already told, with a d too small for 'g at most h and d0' -/
def rf_clash : List (Nat × Nat × Int) → Nat → Nat → Int → Bool
  | [], _, _, _ => false
  | c :: l, g, h, d => (Nat.beq c.1 h && Nat.beq c.2.1 g && decide (c.2.2 + d < 0)) || rf_clash l g h d
theorem rf_clash_spec {ρ : List Int} {g h : Nat} {d a b : Int} (ha : rf_r ρ g = some a) (hb : rf_r ρ h = some b) (hab : a ≤ b + d) :
    ∀ (l : List (Nat × Nat × Int)), (∀ c ∈ l, ∃ a b, rf_r ρ c.1 = some a ∧ rf_r ρ c.2.1 = some b ∧ a ≤ b + c.2.2) → rf_clash l g h d = false
  | [], _ => rfl
  | c :: l, hl => by
    have ih := rf_clash_spec ha hb hab l (fun x hx => hl x (List.mem_cons_of_mem _ hx))
    simp only [rf_clash, ih, Bool.or_false]
    cases hc : (Nat.beq c.1 h && Nat.beq c.2.1 g && decide (c.2.2 + d < 0)) with
    | false => rfl
    | true =>
      simp only [Bool.and_eq_true, decide_eq_true_eq] at hc
      obtain ⟨⟨c1, c2⟩, c3⟩ := hc
      obtain ⟨x, y, e1, e2, e3⟩ := hl c List.mem_cons_self
      rw [Nat.eq_of_beq_eq_true c1, hb] at e1
      rw [Nat.eq_of_beq_eq_true c2, ha] at e2
      cases e1
      cases e2
      omega
/-- told: ghost g is at most ghost h and d -/
def rf_addc (E : rf_EV) (g h : Nat) (d : Int) : Option rf_EV :=
  if Nat.beq g h then (if 0 ≤ d then some E else none)
  else match rf_gi E g, rf_gi E h with
    | some q, some q' => match rf_cut E g q.1 (q'.2.1 + d) false with
      | none => none
      | some E1 => match rf_cut E1 h (q.1 - d) q'.2.1 false with
        | none => none
        | some E2 => if rf_clash E2.2 g h d then none
          else if Nat.beq g 0 || Nat.beq h 0 then some E2 else some (E2.1, (g, h, d) :: E2.2)
    | _, _ => none
theorem rf_addc_spec {ρ : List Int} {E : rf_EV} (hE : rf_okE ρ E) {g h : Nat} {d a b : Int} (ha : rf_r ρ g = some a) (hb : rf_r ρ h = some b) (hab : a ≤ b + d) :
    ∃ E', rf_addc E g h d = some E' ∧ rf_okE ρ E' := by
  unfold rf_addc
  split
  next hgh =>
    have e := Nat.eq_of_beq_eq_true hgh
    subst e
    rw [ha] at hb
    cases hb
    exact ⟨E, by rw [if_pos (by omega)], hE⟩
  next =>
    obtain ⟨q, hq⟩ := rf_gi_some hE ha
    obtain ⟨q', hq'⟩ := rf_gi_some hE hb
    obtain ⟨r, a1, a2, a3, -⟩ := rf_gi_spec hE hq
    obtain ⟨r', b1, b2, b3, -⟩ := rf_gi_spec hE hq'
    rw [ha] at a1
    cases a1
    rw [hb] at b1
    cases b1
    obtain ⟨E1, e1, hE1⟩ := rf_cut_spec hE (lo := q.1) (hi := q'.2.1 + d) (nz := false) ha a2 (by omega) (fun h => by cases h)
    obtain ⟨E2, e2, hE2⟩ := rf_cut_spec hE1 (lo := q.1 - d) (hi := q'.2.1) (nz := false) hb (by omega) b3 (fun h => by cases h)
    simp only [hq, hq', e1, e2]
    rw [rf_clash_spec ha hb hab E2.2 hE2.2.2]
    simp only [Bool.false_eq_true, if_false]
    split
    · exact ⟨E2, rfl, hE2⟩
    · refine ⟨_, rfl, hE2.1, hE2.2.1, fun c hc => ?_⟩
      rcases List.mem_cons.mp hc with rfl | hc
      · exact ⟨a, b, ha, hb, hab⟩
      · exact hE2.2.2 c hc
/-- is 'g at most h and k' told -/
def rf_pin (l : List (Nat × Nat × Int)) (g h : Nat) (k : Int) : Bool := l.any (fun c => Nat.beq c.1 g && (Nat.beq c.2.1 h && decide (c.2.2 ≤ k)))
theorem rf_pin_spec {ρ : List Int} {l : List (Nat × Nat × Int)} (hl : ∀ c ∈ l, ∃ a b, rf_r ρ c.1 = some a ∧ rf_r ρ c.2.1 = some b ∧ a ≤ b + c.2.2) {g h : Nat} {k a b : Int} (ha : rf_r ρ g = some a) (hb : rf_r ρ h = some b) (hp : rf_pin l g h k = true) : a ≤ b + k := by
  obtain ⟨c, c1, c2⟩ := List.any_eq_true.mp hp
  simp only [Bool.and_eq_true, decide_eq_true_eq] at c2
  obtain ⟨x, y, e1, e2, e3⟩ := hl c c1
  rw [Nat.eq_of_beq_eq_true c2.1, ha] at e1
  rw [Nat.eq_of_beq_eq_true c2.2.1, hb] at e2
  cases e1
  cases e2
  have := c2.2.2
  omega
/-- told: ghost g and d isn't ghost h and e -/
def rf_nec (E : rf_EV) (g : Nat) (d : Int) (h : Nat) (e : Int) : Option rf_EV :=
  if Nat.beq g h then (if d = e then none else some E)
  else if rf_pin E.2 g h (e - d) && rf_pin E.2 h g (d - e) then none
  else match rf_gi E g, rf_gi E h with
    | some q, some q' =>
      if q'.1 = q'.2.1 then
        let c := q'.1 + e - d
        rf_cut E g (if q.1 = c then c + 1 else q.1) (if q.2.1 = c then c - 1 else q.2.1) (decide (c = 0))
      else if q.1 = q.2.1 then
        let c := q.1 + d - e
        rf_cut E h (if q'.1 = c then c + 1 else q'.1) (if q'.2.1 = c then c - 1 else q'.2.1) (decide (c = 0))
      else some E
    | _, _ => none
theorem rf_nec_spec {ρ : List Int} {E : rf_EV} (hE : rf_okE ρ E) {g h : Nat} {d e a b : Int} (ha : rf_r ρ g = some a) (hb : rf_r ρ h = some b) (hab : a + d ≠ b + e) :
    ∃ E', rf_nec E g d h e = some E' ∧ rf_okE ρ E' := by
  unfold rf_nec
  split
  next hgh =>
    have e' := Nat.eq_of_beq_eq_true hgh
    subst e'
    rw [ha] at hb
    cases hb
    exact ⟨E, by rw [if_neg (fun z => hab (by rw [z]))], hE⟩
  next =>
    rw [if_neg (fun hp => by
      simp only [Bool.and_eq_true] at hp
      have k1 := rf_pin_spec hE.2.2 ha hb hp.1
      have k2 := rf_pin_spec hE.2.2 hb ha hp.2
      omega)]
    obtain ⟨q, hq⟩ := rf_gi_some hE ha
    obtain ⟨q', hq'⟩ := rf_gi_some hE hb
    obtain ⟨r, a1, a2, a3, -⟩ := rf_gi_spec hE hq
    obtain ⟨r', b1, b2, b3, -⟩ := rf_gi_spec hE hq'
    rw [ha] at a1
    cases a1
    rw [hb] at b1
    cases b1
    simp only [hq, hq']
    split
    next hs =>
      refine rf_cut_spec hE ha ?_ ?_ ?_
      · split <;> omega
      · split <;> omega
      · intro hc
        have := of_decide_eq_true hc
        omega
    next =>
      split
      next hs =>
        refine rf_cut_spec hE hb ?_ ?_ ?_
        · split <;> omega
        · split <;> omega
        · intro hc
          have := of_decide_eq_true hc
          omega
      next => exact ⟨E, rfl, hE⟩

/-! values -/
def rf_gv (ρ : List Int) (ad : List Nat) (xt : Nat → Nat) (a : rf_AV) (v : Value) : Prop :=
  match a.1 with
  | 0 => ∃ x : Int32, v = .int x ∧ ∃ r, rf_r ρ a.2.1 = some r ∧ x.toInt = r + a.2.2
  | 1 => ∃ x : Int64, v = .long x ∧ ∃ r, rf_r ρ a.2.1 = some r ∧ x.toInt = r + a.2.2
  | 2 => ∃ q, ad[a.2.1]? = some q ∧ v = .ref q
  | 3 => v = .null
  | 4 => v = .ref (xt a.2.1)
  | 5 => v = .ref (xt 11) ∧ ∃ r, rf_r ρ a.2.1 = some r ∧ ((xt 12 : Nat) : Int) = r + a.2.2
  | _ => False
theorem rf_gv_app {ρ l : List Int} {ad : List Nat} {xt : Nat → Nat} {a : rf_AV} {v : Value} (h : rf_gv ρ ad xt a v) : rf_gv (ρ ++ l) ad xt a v := by
  unfold rf_gv at h ⊢
  split at h
  · obtain ⟨x, h1, r, h2, h3⟩ := h
    exact ⟨x, h1, r, rf_r_app h2, h3⟩
  · obtain ⟨x, h1, r, h2, h3⟩ := h
    exact ⟨x, h1, r, rf_r_app h2, h3⟩
  · exact h
  · exact h
  · exact h
  · obtain ⟨h1, r, h2, h3⟩ := h
    exact ⟨h1, r, rf_r_app h2, h3⟩
  · exact h
theorem rf_gv_ad {ρ : List Int} {ad l : List Nat} {xt : Nat → Nat} {a : rf_AV} {v : Value} (h : rf_gv ρ ad xt a v) : rf_gv ρ (ad ++ l) xt a v := by
  unfold rf_gv at h ⊢
  split at h
  · exact h
  · exact h
  · obtain ⟨q, h1, h2⟩ := h
    exact ⟨q, by rw [List.getElem?_append_left (List.getElem?_eq_some_iff.mp h1).1]; exact h1, h2⟩
  · exact h
  · exact h
  · exact h
  · exact h
theorem rf_gv_cat {ρ : List Int} {ad : List Nat} {xt : Nat → Nat} {a : rf_AV} {v : Value} (h : rf_gv ρ ad xt a v) : v.category = if a.1 = 1 then 2 else 1 := by
  unfold rf_gv at h
  split at h
  next e => obtain ⟨x, rfl, -⟩ := h; simp [e, Value.category]
  next e => obtain ⟨x, rfl, -⟩ := h; simp [e, Value.category]
  next e => obtain ⟨x, -, rfl⟩ := h; simp [e, Value.category]
  next e => subst h; simp [e, Value.category]
  next e => subst h; simp [e, Value.category]
  next e => obtain ⟨rfl, -⟩ := h; simp [e, Value.category]
  next => exact h.elim
theorem rf_gv_int {ρ : List Int} {ad : List Nat} {xt : Nat → Nat} {g : Nat} {d : Int} {v : Value} (h : rf_gv ρ ad xt (0, g, d) v) : ∃ x : Int32, v = .int x ∧ ∃ r, rf_r ρ g = some r ∧ x.toInt = r + d := h
theorem rf_gv_long {ρ : List Int} {ad : List Nat} {xt : Nat → Nat} {g : Nat} {d : Int} {v : Value} (h : rf_gv ρ ad xt (1, g, d) v) : ∃ x : Int64, v = .long x ∧ ∃ r, rf_r ρ g = some r ∧ x.toInt = r + d := h
theorem rf_gv_ref {ρ : List Int} {ad : List Nat} {xt : Nat → Nat} {k : Nat} {d : Int} {v : Value} (h : rf_gv ρ ad xt (2, k, d) v) : ∃ q, ad[k]? = some q ∧ v = .ref q := h

/-! cells; tys: the array classes by kind -/
def rf_cell (ρ : List Int) (ad : List Nat) (xt : Nat → Nat) (tys : List (ClassId × FieldType)) (c : rf_AC) (e : va_E) : Prop :=
  match c.1 with
  | 0 => ∃ fs, e = .inr (c.2.1, fs) ∧ rf_L (rf_gv ρ ad xt) c.2.2.2.2 fs
  | 1 => ∃ cA ty, tys[c.2.1]? = some (cA, ty) ∧
      ((c.2.1 ≠ 1 ∧ ∃ f : Nat → Int32, e = .inl (cA, c.2.2.1, .inl f) ∧ ∀ j, j < c.2.2.1 → c.2.2.2.1.1 ≤ (f j).toInt ∧ (f j).toInt ≤ c.2.2.2.1.2) ∨
       (c.2.1 = 1 ∧ ∃ f : Nat → Int64, e = .inl (cA, c.2.2.1, .inr (.inl f)) ∧ ∀ j, j < c.2.2.1 → c.2.2.2.1.1 ≤ (f j).toInt ∧ (f j).toInt ≤ c.2.2.2.1.2))
  | 2 => ∃ cA ty, tys[c.2.1]? = some (cA, ty) ∧ ∃ f : Nat → Option Nat, e = .inl (cA, c.2.2.2.2.length, .inr (.inr (.inr (.inr f)))) ∧ ∀ (j : Nat) (a : rf_AV), c.2.2.2.2[j]? = some a → rf_gv ρ ad xt a (va_rf (f j))
  | 3 => ∃ cA ty, tys[c.2.1]? = some (cA, ty) ∧ ∃ f : Nat → Int32, e = .inl (cA, c.2.2.2.2.length, .inl f) ∧ ∀ (j : Nat) (a : rf_AV), c.2.2.2.2[j]? = some a → rf_gv ρ ad xt a (.int (f j))
  | _ => False
theorem rf_cell_mono {ρ ρ' : List Int} {ad ad' : List Nat} {xt : Nat → Nat} {tys : List (ClassId × FieldType)} (hm : ∀ a v, rf_gv ρ ad xt a v → rf_gv ρ' ad' xt a v) {c : rf_AC} {e : va_E} (h : rf_cell ρ ad xt tys c e) : rf_cell ρ' ad' xt tys c e := by
  unfold rf_cell at h ⊢
  split at h
  · obtain ⟨fs, h1, h2⟩ := h
    exact ⟨fs, h1, rf_L_mono hm h2⟩
  · exact h
  · obtain ⟨cA, ty, h0, f, h1, h2⟩ := h
    exact ⟨cA, ty, h0, f, h1, fun j a hj => hm _ _ (h2 j a hj)⟩
  · obtain ⟨cA, ty, h0, f, h1, h2⟩ := h
    exact ⟨cA, ty, h0, f, h1, fun j a hj => hm _ _ (h2 j a hj)⟩
  · exact h
/-! facts -/
def rf_num (ρ : List Int) (a : rf_AV) (x : Int) : Prop := ∃ r, rf_r ρ a.2.1 = some r ∧ x = r + a.2.2
/-- what n steps of a text from place a on make of a pile that is empty at first: how high it is, or none, if it can't be -/
def rf_dep (f g : Nat → Int32) (a : Nat) : Nat → Option Nat
  | 0 => some 0
  | n + 1 => match rf_dep f g a n with
    | none => none
    | some d =>
      if (f (a + n)).toInt = 1 then some (d + 1)
      else if (f (a + n)).toInt = 2 then (if 0 ≤ (g (a + n)).toInt ∧ (g (a + n)).toInt ≤ 5 then some (d + 1) else none)
      else if (f (a + n)).toInt = 3 ∨ (f (a + n)).toInt = 4 then (if 1 ≤ d then some d else none)
      else (if 2 ≤ d then some (d - 1) else none)
/-- the end of a text's n lines (steps from place ba on, lines from place lb on), or none, if one of them can't be worked -/
def rf_lin (f g t u : Nat → Int32) (ba lb : Nat) : Nat → Option Nat
  | 0 => some 0
  | n + 1 => match rf_lin f g t u ba lb n with
    | none => none
    | some s => if (s : Int) ≤ (t (lb + n)).toInt ∧ (t (lb + n)).toInt ≤ (u (lb + n)).toInt ∧ (u (lb + n)).toInt ≤ 130 ∧ ((t (lb + n)).toInt = s ∨ rf_dep f g (ba + s) ((t (lb + n)).toInt.toNat - s) = some 1) ∧ rf_dep f g (ba + (t (lb + n)).toInt.toNat) ((u (lb + n)).toInt.toNat - (t (lb + n)).toInt.toNat) = some 1 then some (u (lb + n)).toInt.toNat else none
def rf_txt (ba lb : Nat) (e1 e2 e3 e4 : va_E) (n s : Int) : Prop := ∃ (c1 c2 c3 c4 : ClassId) (n1 n2 n3 n4 : Nat) (f g t u : Nat → Int32), e1 = .inl (c1, n1, .inl f) ∧ e2 = .inl (c2, n2, .inl g) ∧ e3 = .inl (c3, n3, .inl t) ∧ e4 = .inl (c4, n4, .inl u) ∧ 0 ≤ n ∧ 0 ≤ s ∧ rf_lin f g t u ba lb n.toNat = some s.toNat
/-- a text as it is being read: n lines, ending at step s; the next line's test up to m (none if m is s); what follows up to t makes a pile d - n high -/
def rf_ps (e1 e2 e3 e4 : va_E) (n s m t d : Int) : Prop := ∃ (c1 c2 c3 c4 : ClassId) (n1 n2 n3 n4 : Nat) (f g tt u : Nat → Int32), e1 = .inl (c1, n1, .inl f) ∧ e2 = .inl (c2, n2, .inl g) ∧ e3 = .inl (c3, n3, .inl tt) ∧ e4 = .inl (c4, n4, .inl u) ∧ 0 ≤ n ∧ 0 ≤ s ∧ s ≤ m ∧ m ≤ t ∧ n ≤ d ∧ rf_lin f g tt u 130 61 n.toNat = some s.toNat ∧ (m = s ∨ rf_dep f g (130 + s.toNat) (m.toNat - s.toNat) = some 1) ∧ rf_dep f g (130 + m.toNat) (t.toNat - m.toNat) = some (d - n).toNat
/-- a guest and a thing by one number; what changes() may be told of -/
def rf_gt (x : Int) : Prop := 0 ≤ x ∧ x / 10 ≤ 6 ∧ x % 10 ≤ 3
def rf_may (k x : Int) : Prop := 0 ≤ k ∧ k ≤ 8 ∧ (k ≤ 1 → 0 ≤ x ∧ x ≤ 3) ∧ (2 ≤ k → k ≤ 3 → rf_gt x) ∧ (4 ≤ k → k ≤ 5 → 0 ≤ x ∧ x ≤ 6)
/-! rows told by one number: its digits to the base 2 ^ 64 -/
def rf_sd (d : Int) : Int := if d < 9223372036854775808 then d else d - 18446744073709551616
theorem rf_sd_of {v : Int} (h1 : -9223372036854775808 ≤ v) (h2 : v ≤ 9223372036854775807) : rf_sd (v % 18446744073709551616) = v := by
  unfold rf_sd
  by_cases h : v % 18446744073709551616 < 9223372036854775808
  · rw [if_pos h]
    omega
  · rw [if_neg h]
    omega
def rf_dc : Nat → Int → Int
  | 0, g => rf_sd (g % 18446744073709551616)
  | j + 1, g => rf_dc j (g / 18446744073709551616)
def rf_up : Nat → Int → Int → Int
  | 0, v, g => v % 18446744073709551616 + 18446744073709551616 * (g / 18446744073709551616)
  | i + 1, v, g => g % 18446744073709551616 + 18446744073709551616 * rf_up i v (g / 18446744073709551616)
theorem rf_dc_up {v : Int} (h1 : -9223372036854775808 ≤ v) (h2 : v ≤ 9223372036854775807) : ∀ (i j : Nat) (g : Int), rf_dc j (rf_up i v g) = if j = i then v else rf_dc j g
  | 0, 0, g => by
    rw [if_pos rfl]
    show rf_sd ((v % 18446744073709551616 + 18446744073709551616 * (g / 18446744073709551616)) % 18446744073709551616) = v
    rw [show (v % 18446744073709551616 + 18446744073709551616 * (g / 18446744073709551616)) % 18446744073709551616 = v % 18446744073709551616 by omega]
    exact rf_sd_of h1 h2
  | 0, j + 1, g => by
    rw [if_neg (by omega)]
    show rf_dc j ((v % 18446744073709551616 + 18446744073709551616 * (g / 18446744073709551616)) / 18446744073709551616) = rf_dc j (g / 18446744073709551616)
    congr 1
    omega
  | i + 1, 0, g => by
    rw [if_neg (by omega)]
    show rf_sd ((g % 18446744073709551616 + 18446744073709551616 * rf_up i v (g / 18446744073709551616)) % 18446744073709551616) = rf_sd (g % 18446744073709551616)
    congr 1
    omega
  | i + 1, j + 1, g => by
    show rf_dc j ((g % 18446744073709551616 + 18446744073709551616 * rf_up i v (g / 18446744073709551616)) / 18446744073709551616) = if j + 1 = i + 1 then v else rf_dc j (g / 18446744073709551616)
    have e : (g % 18446744073709551616 + 18446744073709551616 * rf_up i v (g / 18446744073709551616)) / 18446744073709551616 = rf_up i v (g / 18446744073709551616) := by omega
    rw [e, rf_dc_up h1 h2 i j]
    by_cases h : j = i
    · rw [if_pos h, if_pos (by omega)]
    · rw [if_neg h, if_neg (by omega)]
theorem rf_dc_zero : ∀ (j : Nat), rf_dc j 0 = 0
  | 0 => rfl
  | j + 1 => rf_dc_zero j
def rf_big : Nat → Int
  | 0 => 1
  | n + 1 => 18446744073709551616 * rf_big n
theorem rf_up_big : ∀ (n i : Nat) (v g : Int), i < n → 0 ≤ g → g < rf_big n → 0 ≤ rf_up i v g ∧ rf_up i v g < rf_big n
  | 0, i, _, _, h, _, _ => absurd h (by omega)
  | n + 1, 0, v, g, _, h1, h2 => by
    simp only [rf_big, rf_up] at h2 ⊢
    generalize rf_big n = b at h2 ⊢
    omega
  | n + 1, i + 1, v, g, h, h1, h2 => by
    simp only [rf_big, rf_up] at h2 ⊢
    have ih := rf_up_big n i v (g / 18446744073709551616) (by omega) (by omega) (by omega)
    generalize rf_up i v (g / 18446744073709551616) = u at ih ⊢
    generalize rf_big n = b at h2 ih ⊢
    omega
/-- all numbers of rows of at most 375 places are below -/
def rf_BIG : Int := Int.ofNat (2 ^ 24000 - 1)
theorem rf_BIG_lt : rf_BIG < rf_big 375 := by decide +kernel
theorem rf_BIGe : rf_BIG + 1 = rf_big 375 := by decide +kernel
theorem rf_sd_rng (v : Int) : -9223372036854775808 ≤ rf_sd (v % 18446744073709551616) ∧ rf_sd (v % 18446744073709551616) ≤ 9223372036854775807 := by
  unfold rf_sd
  by_cases h : v % 18446744073709551616 < 9223372036854775808
  · rw [if_pos h]
    omega
  · rw [if_neg h]
    omega
theorem rf_dc_rng : ∀ (j : Nat) (g : Int), -9223372036854775808 ≤ rf_dc j g ∧ rf_dc j g ≤ 9223372036854775807
  | 0, g => rf_sd_rng g
  | j + 1, g => rf_dc_rng j _
/-- a row's number with n places from d on as those of another from s on -/
theorem rf_cp_ex {g h : Int} (hg : 0 ≤ g) (hb : g ≤ rf_BIG) (d s : Nat) : ∀ n : Nat, d + n ≤ 375 → ∃ g' : Int, (0 ≤ g' ∧ g' ≤ rf_BIG) ∧ ∀ j : Nat, rf_dc j g' = if d ≤ j ∧ j < d + n then rf_dc (s + (j - d)) h else rf_dc j g
  | 0, _ => ⟨g, ⟨hg, hb⟩, fun j => by rw [if_neg (by omega)]⟩
  | n + 1, hn => by
    obtain ⟨g1, b1, e1⟩ := rf_cp_ex (h := h) hg hb d s n (by omega)
    have hu := rf_up_big 375 (d + n) (rf_dc (s + n) h) g1 (by omega) b1.1 (by rw [← rf_BIGe]; omega)
    rw [← rf_BIGe] at hu
    refine ⟨rf_up (d + n) (rf_dc (s + n) h) g1, ⟨hu.1, by omega⟩, fun j => ?_⟩
    rw [rf_dc_up (rf_dc_rng _ _).1 (rf_dc_rng _ _).2]
    by_cases hj : j = d + n
    · subst hj
      rw [if_pos rfl, if_pos (by omega), Nat.add_sub_cancel_left]
    · rw [if_neg hj, e1 j]
      by_cases hc : d ≤ j ∧ j < d + n
      · rw [if_pos hc, if_pos (by omega)]
      · rw [if_neg hc, if_neg (by omega)]
/-- a row's number by its changes, the latest first -/
def rf_chn : List Int → Int
  | [] => 0
  | [g] => g
  | i :: v :: l => rf_up i.toNat v (rf_chn l)
def rf_ct (e : va_E) (c : Int) : Prop := match e with
  | .inl (_, n, .inl f) => ∀ j, j < n → (f j).toInt = rf_dc j c
  | .inl (_, n, .inr (.inl f)) => ∀ j, j < n → (f j).toInt = rf_dc j c
  | _ => False
/-! numbers as the machine's: 0 +, 1 -, 2 *, 3 its negative, 4 bits that differ, 5 of a long, 6 as a byte, 7 as a short -/
def rf_wop (o : Nat) (a b : Int) : Int := match o with
  | 0 => (a + b).bmod (2 ^ 32)
  | 1 => (a - b).bmod (2 ^ 32)
  | 2 => (a * b).bmod (2 ^ 32)
  | 3 => (-a).bmod (2 ^ 32)
  | 4 => (Int32.ofInt a ^^^ Int32.ofInt b).toInt
  | 5 => a.bmod (2 ^ 32)
  | 6 => a.bmod (2 ^ 8)
  | 7 => a.bmod (2 ^ 16)
  | 8 => (Int64.ofInt a <<< ((Int32.ofInt b).toInt64 &&& 63)).toInt
  | 9 => (Int64.ofInt a &&& Int64.ofInt b).toInt
  | 10 => (Int64.ofInt a ||| Int64.ofInt b).toInt
  | 11 => (Int32.ofInt a &&& Int32.ofInt b).toInt
  | 12 => (Int32.ofInt a ||| Int32.ofInt b).toInt
  | 13 => (Int32.ofInt a <<< (Int32.ofInt b &&& 31)).toInt
  | 14 => (Int32.ofInt a >>> (Int32.ofInt b &&& 31)).toInt
  | 15 => (((Int32.ofInt a).toUInt32 >>> ((Int32.ofInt b).toUInt32 &&& Int32.toUInt32 31)).toInt32).toInt
  | 16 => (Int64.ofInt a + Int64.ofInt b).toInt
  | 17 => (Int64.ofInt a * Int64.ofInt b).toInt
  | 18 => (Int64.ofInt a / Int64.ofInt b).toInt
  | 19 => (Int64.ofInt a - Int64.ofInt a / Int64.ofInt b * Int64.ofInt b).toInt
  | 20 => (Int32.ofInt a / Int32.ofInt b).toInt
  | 21 => (Int32.ofInt a - Int32.ofInt a / Int32.ofInt b * Int32.ofInt b).toInt
  | _ => 0
/-- is a body of kind r of kind k too -/
def rf_und (r k : Nat) : Int := if Nat.beq k 0 || (Nat.beq r k || ((Nat.beq k 1 && Nat.beq r 4) || ((Nat.beq k 2 && (Nat.beq r 3 || Nat.beq r 5)) || ((Nat.beq k 3 && Nat.beq r 5) || (Nat.beq k 6 && Nat.beq r 7))))) then 1 else 0
/-! what holds of the two objects -/
/-- a shelf: what it holds, its body, sort, length; the reference's two numbers -/
def rf_shl (h b so len H Z : Int) : Prop := (h = 0 ∧ H = -1) ∨ (h = 1 ∧ 0 ≤ b ∧ H = b) ∨ (h = 2 ∧ 0 ≤ so ∧ so ≤ 4 ∧ H = -2 - so ∧ Z = len)
/-- what is put in keeps its lowest bits -/
def rf_nr (so v : Int) : Int := if so = 0 then rf_wop 6 (rf_wop 5 v 0) 0 else if so = 1 then rf_wop 7 (rf_wop 5 v 0) 0 else if so = 2 then rf_wop 5 v 0 else if so = 3 then v else if v = 0 then 0 else 1
/-- the guest of the three places from i + 3 k on may come: places of the row of shelf s, l long; g0 were there -/
def rf_gok (G s i l g0 k : Int) : Prop := 0 ≤ i + 3 * k ∧ i + 3 * k + 2 < l ∧ g0 + k < 7 ∧
  (0 ≤ rf_wop 5 (rf_dc (60 * s + i + 3 * k).toNat G) 0 ∧ rf_wop 5 (rf_dc (60 * s + i + 3 * k).toNat G) 0 ≤ 9) ∧
  (0 ≤ rf_wop 5 (rf_dc (60 * s + i + 3 * k + 1).toNat G) 0 ∧ rf_wop 5 (rf_dc (60 * s + i + 3 * k + 1).toNat G) 0 ≤ 50) ∧
  (0 ≤ rf_wop 5 (rf_dc (60 * s + i + 3 * k + 2).toNat G) 0 ∧ rf_wop 5 (rf_dc (60 * s + i + 3 * k + 2).toNat G) 0 ≤ 3)
/-! the house's numbers: the class's row of 81, the reference's rows -/
def rf_fst (w : Int) : Int := if w = 0 then 0 else if w = 1 then 4 else if w = 2 then 8 else if w = 3 then 36 else if w = 4 then 64 else if w = 5 then 71 else if w = 6 then 78 else if w = 7 then 79 else 80
def rf_tops (w : Int) : Int := if w = 0 then 99 else if w = 1 then 9 else if w = 2 then 9 else if w = 3 then 20 else if w = 4 then 50 else if w = 5 then 3 else if w = 6 then 50 else if w = 7 then 999 else if w = 8 then 12 else -1
/-- a guest and a thing by one number: the place among 28, or -1 -/
def rf_pr (n gs : Int) : Int := if 0 ≤ n ∧ n / 10 < gs ∧ n % 10 ≤ 3 then 4 * (n / 10) + n % 10 else -1
/-- the place of what is named by w and n within its own rows, or -1 -/
def rf_ix (n w gs : Int) : Int := if w = 0 ∨ w = 1 then (if 0 ≤ n ∧ n ≤ 3 then n else -1) else if w = 2 ∨ w = 3 then rf_pr n gs else if w = 4 ∨ w = 5 then (if 0 ≤ n ∧ n < gs then n else -1) else if w = 6 ∨ w = 7 ∨ w = 8 then (if n = 0 then 0 else -1) else -1
def rf_pl (n w gs : Int) : Int := if 0 ≤ rf_ix n w gs then rf_fst w + rf_ix n w gs else -1
/-- the spot that a gt means in the reference's rows -/
def rf_sp (w n : Int) : Int := if w = 2 ∨ w = 3 then 4 * (n / 10) + n % 10 else n
def rf_hs (T O W K B S E u p h gs : Int) : Prop :=
  (∀ j : Nat, j < 4 → rf_dc j T = rf_dc j O ∧ rf_dc (4 + j) T = rf_dc j W) ∧
  (∀ j : Nat, j < 28 → ((j : Int) < 4 * gs → rf_dc (8 + j) T = rf_dc j K ∧ rf_dc (36 + j) T = rf_dc j B) ∧ (4 * gs ≤ (j : Int) → rf_dc (36 + j) T = 0)) ∧
  (∀ j : Nat, j < 7 → (j : Int) < gs → rf_dc (64 + j) T = rf_dc j S ∧ rf_dc (71 + j) T = rf_dc j E) ∧
  rf_dc 78 T = u ∧ rf_dc 79 T = p ∧ rf_dc 80 T = h
/-- the reference's number of what w and n name -/
def rf_va (w n O W K B S E u p h : Int) : Int := if w = 0 then rf_dc n.toNat O else if w = 1 then rf_dc n.toNat W else if w = 2 then rf_dc (rf_sp w n).toNat K else if w = 3 then rf_dc (rf_sp w n).toNat B else if w = 4 then rf_dc n.toNat S else if w = 5 then rf_dc n.toNat E else if w = 6 then u else if w = 7 then p else h
/-- what becomes of the reference's rows when w and n become v: row k (0 ought .. 5 believes), numbers 6 to 8 -/
def rf_ly (k w n v X : Int) : Int := if w = k then (if k ≤ 5 then rf_up (rf_sp w n).toNat v X else v) else X
def rf_in0 (j : Nat) : Int := if j < 4 then 50 else if j < 36 then 1 else if j < 64 then 0 else if j < 71 then 5 else if j < 78 then 0 else if j = 78 then 50 else if j = 79 then 20 else 6
/-- what guests out of a row bring: value o (0 to 2) of the k-th -/
def rf_gv3 (G s i k o : Int) : Int := rf_wop 5 (rf_dc (60 * s + i + 3 * k + o).toNat G) 0
/-! who has been there: the class's first finds, the reference's marks -/
def rf_bn (F H gs : Int) : Prop := ∀ k : Nat, k < 7 → (rf_dc (4 * k) F = -1 ∧ rf_dc (13 + k) H = 0) ∨ (rf_dc (4 * k) F ≠ -1 ∧ rf_dc (13 + k) H = 1 ∧ (k : Int) < gs)
def rf_cnt (F : Int) : Nat → Int
  | 0 => 0
  | k + 1 => rf_cnt F k + (if rf_dc (4 * k) F = -1 then 0 else 1)
def rf_sum (H : Int) : Nat → Int
  | 0 => 0
  | k + 1 => rf_sum H k + rf_dc (13 + k) H
/-! the law's text: its signs, how it is read -/
/-- a byte as the text's signs have it (0: none of them) -/
def rf_ynr (c : Int) : Int := if 1 ≤ c ∧ c ≤ 127 then c else 0
/-- what stands at place p of a tape of n bytes (0: behind its end, or no sign) -/
def rf_ytc (G n p : Int) : Int := if 0 ≤ p ∧ p < n then rf_ynr (rf_dc p.toNat G) else 0
/-- the step that a sign of level k asks for, or -1 -/
def rf_ysgn (k : Nat) (c : Int) : Int := match k with
  | 0 => if c = 124 then 6 else -1
  | 1 => if c = 38 then 7 else -1
  | 2 => if c = 60 then 8 else if c = 61 then 9 else if c = 62 then 10 else -1
  | 3 => if c = 43 then 11 else if c = 45 then 12 else -1
  | 4 => if c = 42 then 13 else if c = 47 then 14 else if c = 37 then 15 else -1
  | _ => -1
def rf_ynam (c : Int) : Int := if c = 102 then 0 else if c = 111 then 1 else if c = 116 then 2 else if c = 98 then 3 else if c = 115 then 4 else if c = 107 then 5 else -1
def rf_ydig (c : Int) : Prop := 48 ≤ c ∧ c ≤ 57
/-- the number of m digits from p on -/
def rf_yval (t : Int → Int) (p : Int) : Nat → Int
  | 0 => 0
  | m + 1 => rf_yval t p m * 10 + t (p + m) - 48
/-- what is read: 0 .. 4 a level, 5 an operand, 6 .. 10 a level's loop -/
abbrev rf_yN : Type := Nat
def rf_nlv (k : Nat) : Nat := k
def rf_nlp (k : Nat) : Nat := k + 6
def rf_non : Nat := 5
def rf_ysub (k : Nat) : Nat := k + 1
def rf_ynt (c : Int) : Nat := c.toNat
def rf_yb (x : Option (Int × Option (List (Int × Int)))) (f : Int → List (Int × Int) → Option (Int × Option (List (Int × Int)))) : Option (Int × Option (List (Int × Int))) := match x with
  | some (q, some l) => f q l
  | r => r
/-- a number from p on -/
def rf_yfg (t : Int → Int) (p : Int) : Option (Int × Option (List (Int × Int))) := if ¬ (48 ≤ t (p + 1) ∧ t (p + 1) ≤ 57) then some (p + 1, some [(0, rf_yval t p 1)]) else if ¬ (48 ≤ t (p + 2) ∧ t (p + 2) ≤ 57) then some (p + 2, some [(0, rf_yval t p 2)]) else if ¬ (48 ≤ t (p + 3) ∧ t (p + 3) ≤ 57) then some (p + 3, some [(0, rf_yval t p 3)]) else if ¬ (48 ≤ t (p + 4) ∧ t (p + 4) ≤ 57) then some (p + 4, some [(0, rf_yval t p 4)]) else some (p + 4, none)
/-- read from p on, by so many turns at most: up to where, and the steps (none: a fault) -/
def rf_yP (t : Int → Int) : Nat → Nat → Int → Int → Option (Int × Option (List (Int × Int)))
  | 0, _, _, _ => none
  | f + 1, nt, o, p =>
    if nt < 5 then rf_yb (rf_yP t f (nt + 1) o p) (fun q l => rf_yb (rf_yP t f (nt + 6) o q) (fun q' l' => some (q', some (l ++ l'))))
    else if nt = 5 then (if rf_ynam (t p) ≠ -1 then some (p + 1, some [(1, rf_ynam (t p))])
      else if 48 ≤ t p ∧ t p ≤ 57 then rf_yfg t p
      else if t p = 40 then (if 6 ≤ o then some (p, none) else rf_yb (rf_yP t f 0 (o + 1) (p + 1)) (fun q l => if t q = 41 then some (q + 1, some l) else some (q, none)))
      else if t p = 33 ∨ t p = 45 then (if 6 ≤ o then some (p, none) else rf_yb (rf_yP t f 5 (o + 1) (p + 1)) (fun q l => some (q, some (l ++ [(if t p = 33 then 2 else 3, 0)]))))
      else some (p, none))
    else if rf_ysgn (nt - 6) (t p) = -1 then some (p, some []) else rf_yb (rf_yP t f (nt - 5) o (p + 1)) (fun q l => if nt = 8 then some (q, some (l ++ [(rf_ysgn (nt - 6) (t p), 0)])) else rf_yb (rf_yP t f nt o q) (fun q2 l' => some (q2, some (l ++ (rf_ysgn (nt - 6) (t p), 0) :: l'))))
/-- what is read from place p on (o so many stand ahead) ends at q: its steps, or none: a fault at q -/
def rf_yG (t : Int → Int) (nt : Nat) (o p q : Int) (r : Option (List (Int × Int))) : Prop := ∃ f, rf_yP t f nt o p = some (q, r)
/-- a line from p on ends at q; there is a fault at q -/
def rf_yLk (t : Int → Int) (p q : Int) : Prop := ∃ q1 l1, rf_yG t (rf_nlv 0) 0 p q1 (some l1) ∧ ((t q1 ≠ 63 ∧ q = q1) ∨ (t q1 = 63 ∧ ∃ l2, rf_yG t (rf_nlv 0) 0 (q1 + 1) q (some l2)))
def rf_yLb (t : Int → Int) (p q : Int) : Prop := rf_yG t (rf_nlv 0) 0 p q none ∨ ∃ q1 l1, rf_yG t (rf_nlv 0) 0 p q1 (some l1) ∧ t q1 = 63 ∧ rf_yG t (rf_nlv 0) 0 (q1 + 1) q none
def rf_yTf (t : Int → Int) (n : Int) : Nat → Int → Option Int → Prop
  | 0, _, _ => False
  | f + 1, p, r => (∃ q, rf_yLk t p q ∧ n ≤ q ∧ r = none) ∨ (∃ q, rf_yLk t p q ∧ q < n ∧ t q = 59 ∧ rf_yTf t n f (q + 1) r) ∨ (∃ q, rf_yLk t p q ∧ q < n ∧ t q ≠ 59 ∧ r = some q) ∨ ∃ q, rf_yLb t p q ∧ r = some q
/-- lines from p on: a text (none), or where its fault is -/
def rf_yT (t : Int → Int) (n p : Int) (r : Option Int) : Prop := ∃ f, rf_yTf t n f p r
/-- as the class reads: of a fifth digit it takes notice later -/
def rf_yok (t : Int → Int) (c o p q : Int) : Prop := (∃ l, rf_yG t (rf_ynt c) o p q (some l)) ∨ (rf_ydig (t q) ∧ rf_yG t (rf_ynt c) o p q none)
def rf_yst1 (t : Int → Int) (k o p c : Int) : Prop := ∃ acc, (∀ q l, rf_yG t (rf_nlp k.toNat) o c q (some l) → rf_yG t (rf_nlv k.toNat) o p q (some (acc ++ l))) ∧ ∀ q, rf_yG t (rf_nlp k.toNat) o c q none → rf_yG t (rf_nlv k.toNat) o p q none
def rf_yst (t : Int → Int) (k o p c : Int) : Prop := rf_yst1 t k o p c ∨ (rf_ydig (t c) ∧ rf_yG t (rf_nlv k.toNat) o p c none)
/-- steps of the class's row from place d on -/
def rf_yec (S : Int) : Int → List (Int × Int) → Prop
  | _, [] => True
  | d, (s, v) :: l => rf_dc d.toNat S = s * 16384 + v ∧ rf_yec S (d + 1) l
/-- the reference's sign of a step -/
def rf_yac (s : Int) : Int := if s = 0 then 1 else if s = 1 then 2 else if s = 2 then 3 else if s = 3 then 4 else if s = 6 then 124 else if s = 7 then 38 else if s = 8 then 60 else if s = 9 then 61 else if s = 10 then 62 else if s = 11 then 43 else if s = 12 then 45 else if s = 13 then 42 else if s = 14 then 47 else 37
def rf_yer (A W : Int) : Int → List (Int × Int) → Prop
  | _, [] => True
  | d, (s, v) :: l => rf_dc d.toNat A = rf_yac s ∧ rf_dc d.toNat W = v ∧ rf_yer A W (d + 1) l
/-- two rows are the same below a place -/
def rf_ybl (S1 S0 d : Int) : Prop := ∀ j : Nat, (j : Int) < d → rf_dc j S1 = rf_dc j S0
/-- the steps l were written from d0 on -/
def rf_yE (l : List (Int × Int)) (S0 d0 S1 d1 : Int) : Prop := 0 ≤ d0 ∧ d1 = d0 + l.length ∧ rf_yec S1 d0 l ∧ rf_ybl S1 S0 d0
def rf_yR (l : List (Int × Int)) (A0 W0 l0 A1 W1 l1 : Int) : Prop := 0 ≤ l0 ∧ l1 = l0 + l.length ∧ rf_yer A1 W1 (130 + l0) l ∧ rf_ybl A1 A0 (130 + l0) ∧ rf_ybl W1 W0 (130 + l0)
def rf_yst2 (t : Int → Int) (k o p c : Int) (acc : List (Int × Int)) : Prop := (∀ q l, rf_yG t (rf_nlp k.toNat) o c q (some l) → rf_yG t (rf_nlv k.toNat) o p q (some (acc ++ l))) ∧ ∀ q, rf_yG t (rf_nlp k.toNat) o c q none → rf_yG t (rf_nlv k.toNat) o p q none
/-- a line: its test (or none), its value -/
def rf_yLL (t : Int → Int) (p q : Int) (a : Option (List (Int × Int))) (v : List (Int × Int)) : Prop := (a = none ∧ rf_yG t (rf_nlv 0) 0 p q (some v) ∧ t q ≠ 63) ∨ ∃ l q1, a = some l ∧ rf_yG t (rf_nlv 0) 0 p q1 (some l) ∧ t q1 = 63 ∧ rf_yG t (rf_nlv 0) 0 (q1 + 1) q (some v)
def rf_yU (t : Int → Int) (n : Int) : Int → List (Option (List (Int × Int)) × List (Int × Int)) → Prop
  | _, [] => False
  | p, [x] => ∃ q, rf_yLL t p q x.1 x.2 ∧ n ≤ q
  | p, x :: y :: ls => ∃ q, rf_yLL t p q x.1 x.2 ∧ q < n ∧ t q = 59 ∧ rf_yU t n (q + 1) (y :: ls)
/-- lines in the class's row from place d on, up to e -/
def rf_yLC (S : Int) : Int → List (Option (List (Int × Int)) × List (Int × Int)) → Int → Prop
  | d, [], e => e = d
  | d, (none, v) :: ls, e => rf_yec S d v ∧ rf_dc (d + v.length).toNat S = 5 * 16384 ∧ rf_yLC S (d + v.length + 1) ls e
  | d, (some a, v) :: ls, e => rf_yec S d a ∧ rf_dc (d + a.length).toNat S = 4 * 16384 + (d + a.length + v.length + 2) ∧ rf_yec S (d + a.length + 1) v ∧ rf_dc (d + a.length + 1 + v.length).toNat S = 5 * 16384 ∧ rf_yLC S (d + a.length + v.length + 2) ls e
/-- lines in the reference's rows: steps from place b + s on, lines from place lb on -/
def rf_yLR (A W T U b : Int) : Int → Int → List (Option (List (Int × Int)) × List (Int × Int)) → Int → Prop
  | _, s, [], e => e = s
  | m, s, (none, v) :: ls, e => rf_dc m.toNat T = s ∧ rf_dc m.toNat U = s + v.length ∧ rf_yer A W (b + s) v ∧ rf_yLR A W T U b (m + 1) (s + v.length) ls e
  | m, s, (some a, v) :: ls, e => rf_dc m.toNat T = s + a.length ∧ rf_dc m.toNat U = s + a.length + v.length ∧ rf_yer A W (b + s) a ∧ rf_yer A W (b + s + a.length) v ∧ rf_yLR A W T U b (m + 1) (s + a.length + v.length) ls e
/-- the law in force: in the class's row (S, e steps), in the reference's rows -/
def rf_ylaw (S e A W T U m h : Int) : Prop := (h = 0 ∧ e = 0) ∨ (h = 1 ∧ ∃ (ls : List (Option (List (Int × Int)) × List (Int × Int))) (l : Int), (∃ t n p, rf_yU t n p ls) ∧ rf_yLC S 0 ls e ∧ m = (ls.length : Int) ∧ rf_yLR A W T U 0 0 0 ls l ∧ l ≤ 130 ∧ m ≤ 61 ∧ 1 ≤ e)
/-! the law is worked -/
/-- a step of two numbers -/
def rf_ytwo (s a b : Int) : Int := if s = 6 then (if a ≠ 0 ∨ b ≠ 0 then 1 else 0) else if s = 7 then (if a ≠ 0 ∧ b ≠ 0 then 1 else 0) else if s = 8 then (if a < b then 1 else 0) else if s = 9 then (if a = b then 1 else 0) else if s = 10 then (if b < a then 1 else 0) else if s = 11 then (a + b).bmod (2 ^ 32) else if s = 12 then (a - b).bmod (2 ^ 32) else if s = 13 then (a * b).bmod (2 ^ 32) else if s = 14 then (if b = 0 then 0 else (a.tdiv b).bmod (2 ^ 32)) else (if b = 0 then 0 else a.tmod b)
def rf_yone (s a : Int) : Int := if s = 3 then (-a).bmod (2 ^ 32) else if a = 0 then 1 else 0
/-- the pile's numbers, the top first -/
def rf_ypl (P : Int) : Nat → List Int
  | 0 => []
  | h + 1 => rf_dc h P :: rf_ypl P h
/-- the six numbers of a law's names -/
def rf_yvv (N : Int) (j : Int) : Int := if 0 ≤ j ∧ j ≤ 5 then rf_dc j.toNat N else 0
/-- the class's machine: so many turns at most, from step a on -/
def rf_ywl (S e : Int) (V : Int → Int) : Nat → Int → List Int → Int
  | 0, _, _ => 0
  | f + 1, a, k => if e ≤ a ∨ 121 ≤ k.length then 0 else
    let x := rf_dc a.toNat S
    let s := x.tdiv 16384
    let n := x.tmod 16384
    if s ≤ 1 then rf_ywl S e V f (a + 1) ((if s = 0 then n else V n) :: k)
    else match k with
      | [] => 0
      | [v] => if s = 5 then v else if s = 4 then rf_ywl S e V f (if v = 0 then n else a + 1) [] else rf_ywl S e V f (a + 1) [rf_yone s v]
      | v :: w :: k => if 6 ≤ s then rf_ywl S e V f (a + 1) (rf_ytwo s w v :: k) else if s = 5 then v else if s = 4 then rf_ywl S e V f (if v = 0 then n else a + 1) (w :: k) else rf_ywl S e V f (a + 1) (rf_yone s v :: w :: k)
/-- steps on a pile -/
def rf_yev (V : Int → Int) : List (Int × Int) → List Int → Option (List Int)
  | [], k => some k
  | (s, n) :: l, k => if s = 0 then rf_yev V l (n :: k) else if s = 1 then rf_yev V l (V n :: k) else if s = 2 ∨ s = 3 then (match k with
    | v :: k => rf_yev V l (rf_yone s v :: k)
    | [] => none) else (match k with
    | v :: w :: k => rf_yev V l (rf_ytwo s w v :: k)
    | _ => none)
/-- the number of lines: the first that counts -/
def rf_yval1 (V : Int → Int) (l : List (Int × Int)) : Int := match rf_yev V l [] with
  | some [v] => v
  | _ => 0
def rf_ylv (V : Int → Int) : List (Option (List (Int × Int)) × List (Int × Int)) → Int
  | [] => 0
  | (none, v) :: _ => rf_yval1 V v
  | (some a, v) :: ls => if rf_yval1 V a ≠ 0 then rf_yval1 V v else rf_ylv V ls
/-- steps that make one number of a pile more; those that a text may have -/
def rf_ygs (l : List (Int × Int)) : Prop := ∀ q ∈ l, (q.1 = 0 ∧ 0 ≤ q.2 ∧ q.2 ≤ 9999) ∨ (q.1 = 1 ∧ 0 ≤ q.2 ∧ q.2 ≤ 5) ∨ (2 ≤ q.1 ∧ q.1 ≤ 3 ∧ q.2 = 0) ∨ (6 ≤ q.1 ∧ q.1 ≤ 15 ∧ q.2 = 0)
def rf_yw1 (l : List (Int × Int)) : Prop := l ≠ [] ∧ rf_ygs l ∧ ∀ V k, ∃ v, rf_yev V l k = some (v :: k) ∧ rf_yev V l [] = some [v]
def rf_ywn (ls : List (Option (List (Int × Int)) × List (Int × Int))) : Prop := ∀ q ∈ ls, rf_yw1 q.2 ∧ ∀ a, q.1 = some a → rf_yw1 a
/-- the reference's sign as a step's sort -/
def rf_yso (x : Int) : Int := if x = 38 then 7 else if x = 60 then 8 else if x = 61 then 9 else if x = 62 then 10 else if x = 43 then 11 else if x = 45 then 12 else if x = 42 then 13 else if x = 47 then 14 else if x = 37 then 15 else 6
/-- the reference's machine -/
def rf_yrl (A W : Int) (V : Int → Int) : Nat → Int → List Int → Option (List Int)
  | 0, _, k => some k
  | f + 1, a, k =>
    let x := rf_dc a.toNat A
    let n := rf_dc a.toNat W
    if x = 1 then rf_yrl A W V f (a + 1) (n :: k) else if x = 2 then rf_yrl A W V f (a + 1) (V n :: k) else if x = 3 ∨ x = 4 then (match k with
      | v :: k => rf_yrl A W V f (a + 1) (rf_yone (x - 1) v :: k)
      | [] => none) else (match k with
      | v :: w :: k => rf_yrl A W V f (a + 1) (rf_ytwo (rf_yso x) w v :: k)
      | _ => none)
def rf_yv6 (f o t b s k : Int) (j : Int) : Int := if j = 0 then f else if j = 1 then o else if j = 2 then t else if j = 3 then b else if j = 4 then s else if j = 5 then k else 0
/-- a text in the reference's rows -/
def rf_ywf (A W T U m : Int) (ls : List (Option (List (Int × Int)) × List (Int × Int))) (l0 : Int) : Prop := (∃ t n p, rf_yU t n p ls) ∧ m = (ls.length : Int) ∧ rf_yLR A W T U 0 0 0 ls l0
/-! nights -/
def rf_yc20 (c : Int) : Int := if c < -20 then -20 else if 20 < c then 20 else c
def rf_yc99 (x : Int) : Int := if x < 0 then 0 else if 99 < x then 99 else x
def rf_ymin (a b : Int) : Int := if a ≤ b then a else b
/-- by how much a level changes, by the law, or by what is told -/
def rf_yraw (w : Option (Int → Int → Int → Int → Int → Int → Int)) (f o k b s t : Int) : Int := match w with
  | some w => w f o k b s t
  | none => if s < o - f then rf_ymin (b - k) (o - f) else -k
/-- ought, worth, takes, brings, sees, believes, the rule, the law -/
abbrev rf_yV : Type := (Int → Int) × (Int → Int) × (Int → Int → Int) × (Int → Int → Int) × (Int → Int) × (Int → Int) × Int × Option (Int → Int → Int → Int → Int → Int → Int)
def rf_yv_ou (E : rf_yV) : Int → Int := E.1
def rf_yv_wo (E : rf_yV) : Int → Int := E.2.1
def rf_yv_ta (E : rf_yV) : Int → Int → Int := E.2.2.1
def rf_yv_br (E : rf_yV) : Int → Int → Int := E.2.2.2.1
def rf_yv_se (E : rf_yV) : Int → Int := E.2.2.2.2.1
def rf_yv_be (E : rf_yV) : Int → Int := E.2.2.2.2.2.1
def rf_yv_ru (E : rf_yV) : Int := E.2.2.2.2.2.2.1
def rf_yv_lw (E : rf_yV) : Option (Int → Int → Int → Int → Int → Int → Int) := E.2.2.2.2.2.2.2
def rf_ylev (E : rf_yV) (g t f o : Int) : Int := rf_yc99 (f + rf_yc20 (rf_yraw (rf_yv_lw E) f o ((rf_yv_ta E) g t) ((rf_yv_br E) g t) (rf_ymin ((rf_yv_se E) g) (rf_yv_ru E)) t))
def rf_ybel (E : rf_yV) (g t ff wr sm ah : Int) : Int := if (rf_yv_be E) g = 0 then ff else if (rf_yv_be E) g = 1 then wr else if (rf_yv_be E) g = 3 then (if sm = 0 then (rf_yv_ou E) t else ah) else (rf_yv_ou E) t
def rf_yo (E : rf_yV) (g : Int) (σ : Int → Int) (t : Int) : Int := rf_ybel E g t (if σ (13 + g) = 0 then σ t else σ (20 + 4 * g + t)) (σ (4 + t)) (σ 12) (σ (8 + t))
/-- the hut behind a night of guest g: 0 levels, 4 the book, 8 what the one ahead believed, 12 somebody, 13 been, 20 found -/
def rf_yngt (E : rf_yV) (g : Int) (σ : Int → Int) (j : Int) : Int := if j < 0 ∨ 48 ≤ j then 0 else if j < 4 then rf_ylev E g j (σ j) (rf_yo E g σ j) else if j < 8 then (if (rf_yv_be E) g = 1 then rf_ylev E g (j - 4) (σ (j - 4)) (rf_yo E g σ (j - 4)) else σ j) else if j < 12 then rf_yo E g σ (j - 8) else if j = 12 then 1 else if j < 20 then (if j = 13 + g then 1 else σ j) else if 20 + 4 * g ≤ j ∧ j < 24 + 4 * g ∧ σ (13 + g) = 0 then σ (j - 20 - 4 * g) else σ j
def rf_ysR (H j : Int) : Int := if 0 ≤ j ∧ j < 48 then rf_dc j.toNat H else 0
def rf_ysC (L B F A j : Int) : Int := if j < 0 ∨ 48 ≤ j then 0 else if j < 4 then rf_dc j.toNat L else if j < 8 then rf_dc (j - 4).toNat B else if j < 12 then (if rf_dc (j - 8).toNat A = -1 then 0 else rf_dc (j - 8).toNat A) else if j = 12 then (if rf_dc 0 A = -1 then 0 else 1) else if j < 20 then (if rf_dc (4 * (j - 13)).toNat F = -1 then 0 else 1) else (if rf_dc (j - 20).toNat F = -1 then 0 else rf_dc (j - 20).toNat F)
/-- of a scene of the class: of its fours all or none are told -/
def rf_yvA (F A : Int) : Prop := (∀ t : Nat, t < 4 → (rf_dc t A = -1 ↔ rf_dc 0 A = -1)) ∧ ∀ g t : Nat, g < 7 → t < 4 → (rf_dc (4 * g + t) F = -1 ↔ rf_dc (4 * g) F = -1)
def rf_ylwC (S e : Int) : Option (Int → Int → Int → Int → Int → Int → Int) := if 0 < e then some (fun f o k b s t => rf_ywl S e (rf_yv6 f o k b s t) 121 0 []) else none
def rf_ylwR (A W T U m h : Int) (w : Option (Int → Int → Int → Int → Int → Int → Int)) : Prop := (h = 0 ∧ w = none) ∨ (h = 1 ∧ ∃ ls l0, rf_ywf A W T U m ls l0 ∧ w = some (fun f o k b s t => rf_ylv (rf_yv6 f o k b s t) ls))
def rf_yVc (T S e : Int) : rf_yV := ⟨fun t => rf_dc t.toNat T, fun t => rf_dc (4 + t).toNat T, fun g t => rf_dc (8 + 4 * g + t).toNat T, fun g t => rf_dc (36 + 4 * g + t).toNat T, fun g => rf_dc (64 + g).toNat T, fun g => rf_dc (71 + g).toNat T, rf_dc 78 T, rf_ylwC S e⟩
def rf_yVr (O Wo K Br Se Be u : Int) (w : Option (Int → Int → Int → Int → Int → Int → Int)) : rf_yV := ⟨fun t => rf_dc t.toNat O, fun t => rf_dc t.toNat Wo, fun g t => rf_dc (4 * g + t).toNat K, fun g t => rf_dc (4 * g + t).toNat Br, fun g => rf_dc g.toNat Se, fun g => rf_dc g.toNat Be, u, w⟩
/-- the house's numbers are as they may be -/
def rf_ybT (T : Int) : Prop := (∀ j : Nat, j < 4 → 0 ≤ rf_dc j T ∧ rf_dc j T ≤ 99 ∧ 0 ≤ rf_dc (4 + j) T ∧ rf_dc (4 + j) T ≤ 9) ∧ (∀ j : Nat, j < 28 → 0 ≤ rf_dc (8 + j) T ∧ rf_dc (8 + j) T ≤ 9 ∧ 0 ≤ rf_dc (36 + j) T ∧ rf_dc (36 + j) T ≤ 20) ∧ (∀ j : Nat, j < 7 → 0 ≤ rf_dc (64 + j) T ∧ rf_dc (64 + j) T ≤ 50 ∧ 0 ≤ rf_dc (71 + j) T ∧ rf_dc (71 + j) T ≤ 3) ∧ 0 ≤ rf_dc 78 T ∧ rf_dc 78 T ≤ 50 ∧ 0 ≤ rf_dc 79 T ∧ rf_dc 79 T ≤ 999 ∧ 0 ≤ rf_dc 80 T ∧ rf_dc 80 T ≤ 12
/-- the night of a guest as far as things 0 .. t - 1 go, in the class -/
def rf_ypC (E : rf_yV) (g : Int) (L0 B0 F0 A0 t L B F A : Int) : Prop := (∀ i : Nat, i < 4 → ((i : Int) < t → rf_dc i L = rf_ylev E g i (rf_dc i L0) (rf_yo E g (rf_ysC L0 B0 F0 A0) i) ∧ rf_dc i A = rf_yo E g (rf_ysC L0 B0 F0 A0) i ∧ rf_dc i B = (if (rf_yv_be E) g = 1 then rf_dc i L else rf_dc i B0) ∧ rf_dc (4 * g + i).toNat F = (if rf_dc (4 * g + i).toNat F0 = -1 then rf_dc i L0 else rf_dc (4 * g + i).toNat F0)) ∧ (t ≤ (i : Int) → rf_dc i L = rf_dc i L0 ∧ rf_dc i A = rf_dc i A0 ∧ rf_dc i B = rf_dc i B0 ∧ rf_dc (4 * g + i).toNat F = rf_dc (4 * g + i).toNat F0)) ∧ ∀ j : Nat, j < 28 → ((j : Int) < 4 * g ∨ 4 * g + 4 ≤ (j : Int)) → rf_dc j F = rf_dc j F0
def rf_XQ (k : Nat) (xs : List Int) : Prop := match k, xs with
  | 0, [h, b, so, len, GH, GZ, s] => rf_shl h b so len (rf_dc s.toNat GH) (rf_dc s.toNat GZ)
  | 1, [g, G, o, n] => ∀ j : Nat, (j : Int) < n → rf_dc j g = rf_dc (o.toNat + j) G
  | 2, [h, b, N] => h = 1 → b + 1 ≤ N
  | 3, [r, k, z] => z = rf_und r.toNat k.toNat
  | 4, [h, n, g, G, s] => h = 2 → ∀ j : Nat, (j : Int) < n → rf_dc j g = rf_dc (60 * s.toNat + j) G
  | 5, [g, a, b] => ∀ j : Nat, a ≤ (j : Int) → (j : Int) < b → rf_dc j g = 0
  | 6, [g', g, h, d, s, n] => ∀ j : Nat, j ≤ 374 → rf_dc j g' = if d ≤ (j : Int) ∧ (j : Int) < d + n then rf_dc (s + ((j : Int) - d)).toNat h else rf_dc j g
  | 7, [g', g, a, b] => ∀ j : Nat, ¬ (a ≤ (j : Int) ∧ (j : Int) < b) → rf_dc j g' = rf_dc j g
  | 8, [so, v, w] => w = rf_nr so v
  | 9, [r, G, s, i] => r = rf_dc (60 * s + i).toNat G
  | 10, [g', g, G, d, s, i, n] => ∀ j : Nat, j ≤ 374 → rf_dc j g' = if d ≤ (j : Int) ∧ (j : Int) < d + n then rf_dc (60 * s + i + ((j : Int) - d)).toNat G else rf_dc j g
  | 11, [c, G, s, i, n, l, g0] => 0 ≤ c ∧ c ≤ n ∧ ∀ k : Int, 0 ≤ k → k < c → rf_gok G s i l g0 k
  | 12, [c, G, s, i, n, l, g0] => c = n ∨ ¬ rf_gok G s i l g0 c
  | 13, [a, i, c] => a = i + 3 * c
  | 14, [T, O, W, K, B, S, E, u, p, h, gs] => rf_hs T O W K B S E u p h gs
  | 15, [T', T, gs, a, b, c] => ∀ j : Nat, j ≤ 80 → rf_dc j T' = if 8 + 4 * gs ≤ (j : Int) ∧ (j : Int) < 12 + 4 * gs then a else if (j : Int) = 64 + gs then b else if (j : Int) = 71 + gs then c else rf_dc j T
  | 16, [K', B', S', E', K, B, S, E, gs, a, b, c] => (∀ j : Nat, j < 28 → rf_dc j K' = (if 4 * gs ≤ (j : Int) ∧ (j : Int) < 4 * gs + 4 then a else rf_dc j K) ∧ rf_dc j B' = (if 4 * gs ≤ (j : Int) ∧ (j : Int) < 4 * gs + 4 then 0 else rf_dc j B)) ∧ ∀ j : Nat, j < 7 → rf_dc j S' = (if (j : Int) = gs then b else rf_dc j S) ∧ rf_dc j E' = (if (j : Int) = gs then c else rf_dc j E)
  | 17, [T', T, gs, c, G, s, i] => ∀ j : Nat, j ≤ 80 → rf_dc j T' = if 8 + 4 * gs ≤ (j : Int) ∧ (j : Int) < 8 + 4 * (gs + c) then rf_gv3 G s i (((j : Int) - 8) / 4 - gs) 0 else if 64 + gs ≤ (j : Int) ∧ (j : Int) < 64 + gs + c then rf_gv3 G s i ((j : Int) - 64 - gs) 1 else if 71 + gs ≤ (j : Int) ∧ (j : Int) < 71 + gs + c then rf_gv3 G s i ((j : Int) - 71 - gs) 2 else rf_dc j T
  | 18, [K', B', S', E', K, B, S, E, gs, c, G, s, i] => (∀ j : Nat, j < 28 → rf_dc j K' = (if 4 * gs ≤ (j : Int) ∧ (j : Int) < 4 * (gs + c) then rf_gv3 G s i ((j : Int) / 4 - gs) 0 else rf_dc j K) ∧ rf_dc j B' = (if 4 * gs ≤ (j : Int) ∧ (j : Int) < 4 * (gs + c) then 0 else rf_dc j B)) ∧ ∀ j : Nat, j < 7 → rf_dc j S' = (if gs ≤ (j : Int) ∧ (j : Int) < gs + c then rf_gv3 G s i ((j : Int) - gs) 1 else rf_dc j S) ∧ rf_dc j E' = (if gs ≤ (j : Int) ∧ (j : Int) < gs + c then rf_gv3 G s i ((j : Int) - gs) 2 else rf_dc j E)
  | 19, [n, w, gs, p] => p = rf_pl n w gs
  | 20, [n, w, gs, r] => r = if 0 ≤ rf_ix n w gs then 1 else 0
  | 21, [n, gs, p] => p = rf_pr n gs
  | 23, [r, w, n, O, W, K, B, S, E, u, p, h] => r = rf_va w n O W K B S E u p h
  | 26, [w, v, r] => r = if 0 ≤ v ∧ v ≤ rf_tops w then 1 else 0
  | 27, [T] => ∀ j : Nat, j < 81 → rf_dc j T = rf_in0 j
  | 28, [g, v, n] => ∀ j : Nat, (j : Int) < n → rf_dc j g = v
  | 29, [P, C, A, n, gs] => ∀ j : Nat, (j : Int) < n → 0 ≤ rf_dc j P ∧ rf_dc j P = rf_pl (rf_dc j A) (rf_dc j C) gs
  | 30, [f, h, a, b] => ∀ j : Nat, a ≤ (j : Int) → (j : Int) < b → rf_dc j f = rf_dc j h
  | 34, [F, H, gs] => rf_bn F H gs
  | 35, [H', H, g] => ∀ j : Nat, 13 ≤ j → j < 20 → rf_dc j H' = if (j : Int) = 13 + g then 1 else rf_dc j H
  | 36, [F', F, g] => ∀ k : Nat, k < 7 → ((k : Int) ≠ g → rf_dc (4 * k) F' = rf_dc (4 * k) F) ∧ ((k : Int) = g → rf_dc (4 * k) F' ≠ -1)
  | 37, [F, k, n] => n = rf_cnt F k.toNat
  | 38, [H, k, n] => n = rf_sum H k.toNat
  | 39, [F', F, g, t] => ∀ k : Nat, k < 7 → ((k : Int) ≠ g → rf_dc (4 * k) F' = rf_dc (4 * k) F) ∧ ((k : Int) = g → 1 ≤ t → rf_dc (4 * k) F' ≠ -1)
  | 42, [F', F, g] => ∀ k : Nat, k < 7 → rf_dc (4 * k) F' = if (k : Int) = g then -1 else rf_dc (4 * k) F
  | 43, [F', F, g, t] => ∀ k : Nat, k < 7 → ((k : Int) ≠ g → rf_dc (4 * k) F' = rf_dc (4 * k) F) ∧ ((k : Int) = g → 1 ≤ t → rf_dc (4 * k) F' = -1)
  | 44, [H', H, g] => ∀ j : Nat, 13 ≤ j → j < 20 → rf_dc j H' = if (j : Int) = 13 + g then 0 else rf_dc j H
  | 45, [F] => ∀ j : Nat, j < 28 → rf_dc j F = -1
  | 46, [H] => ∀ j : Nat, 8 ≤ j → j < 48 → rf_dc j H = 0
  | 31, [n, gs, r] => r = if 0 ≤ rf_pr n gs then 1 else 0
  | 32, [n, p] => 0 ≤ n ∧ p = 4 * (n / 10) + n % 10
  | 33, [w, n, v, O', W', K', B', S', E', u', p', h', O, W, K, B, S, E, u, p, h] => O' = rf_ly 0 w n v O ∧ W' = rf_ly 1 w n v W ∧ K' = rf_ly 2 w n v K ∧ B' = rf_ly 3 w n v B ∧ S' = rf_ly 4 w n v S ∧ E' = rf_ly 5 w n v E ∧ u' = rf_ly 6 w n v u ∧ p' = rf_ly 7 w n v p ∧ h' = rf_ly 8 w n v h
  | 50, [g, h, n] => ∀ j : Nat, (j : Int) < n → rf_ynr (rf_dc j g) = rf_ynr (rf_dc j h)
  | 51, [c, o, G, n, p, q] => rf_yok (rf_ytc G n) c o p q
  | 52, [c, o, G, n, p, q] => rf_yG (rf_ytc G n) (rf_ynt c) o p q none
  | 53, [k, o, G, n, p, c] => rf_yst (rf_ytc G n) k o p c
  | 54, [c, o, G, n, p, q] => ∃ l, rf_yG (rf_ytc G n) (rf_ynt c) o p q (some l)
  | 55, [k, o, G, n, p, c] => rf_yst1 (rf_ytc G n) k o p c
  | 56, [k, G, n, p] => rf_ysgn k.toNat (rf_ytc G n p) = -1
  | 57, [k, G, n, p] => rf_ysgn k.toNat (rf_ytc G n p) ≠ -1
  | 58, [c, G, n, p] => rf_ytc G n p ≠ c
  | 59, [c, G, n, p] => rf_ytc G n p = c
  | 60, [G, n, p, q] => rf_yLk (rf_ytc G n) p q ∨ (rf_ydig (rf_ytc G n q) ∧ rf_yLb (rf_ytc G n) p q)
  | 61, [G, n, p, q] => rf_yLk (rf_ytc G n) p q
  | 62, [G, n, p, q] => rf_yLb (rf_ytc G n) p q
  | 63, [G, n, c] => ∀ r, rf_yT (rf_ytc G n) n c r → rf_yT (rf_ytc G n) n 0 r
  | 64, [G, n] => rf_yT (rf_ytc G n) n 0 none
  | 65, [G, n, q] => rf_yT (rf_ytc G n) n 0 (some q)
  | 66, [G, n, p, q] => ∀ o, rf_yok (rf_ytc G n) 5 o p q
  | 70, [k, G, n, p, s] => rf_ysgn k.toNat (rf_ytc G n p) = s
  | 71, [c, o, G, n, p, q, S0, d0, S1, d1] => ∃ l : List (Int × Int), (rf_yG (rf_ytc G n) (rf_ynt c) o p q (some l) ∨ (rf_ydig (rf_ytc G n q) ∧ rf_yG (rf_ytc G n) (rf_ynt c) o p q none)) ∧ (l.length : Int) ≤ q - p ∧ rf_yE l S0 d0 S1 d1
  | 73, [k, o, G, n, p, c, S0, d0, S1, d1] => ∃ l : List (Int × Int), (rf_yst2 (rf_ytc G n) k o p c l ∨ (rf_ydig (rf_ytc G n c) ∧ rf_yG (rf_ytc G n) (rf_nlv k.toNat) o p c none)) ∧ (l.length : Int) ≤ c - p ∧ rf_yE l S0 d0 S1 d1
  | 78, [G, n, p, q, w] => ∀ u, rf_yG (rf_ytc G n) rf_non u p q (some [(0, w)]) ∨ (rf_ydig (rf_ytc G n q) ∧ rf_yG (rf_ytc G n) rf_non u p q none)
  | 86, [G, n, p, q, S0, d0, S1, d1] => ∃ (a : Option (List (Int × Int))) (v : List (Int × Int)), (rf_yLL (rf_ytc G n) p q a v ∨ (rf_ydig (rf_ytc G n q) ∧ rf_yLb (rf_ytc G n) p q)) ∧ d1 ≤ q + 1 - p + d0 ∧ 0 ≤ d0 ∧ rf_yLC S1 d0 [(a, v)] d1 ∧ rf_ybl S1 S0 d0
  | 87, [G, n, c, S, d] => ∃ ls, (∀ rest, rf_yU (rf_ytc G n) n c rest → rf_yU (rf_ytc G n) n 0 (ls ++ rest)) ∧ (∀ r, rf_yT (rf_ytc G n) n c r → rf_yT (rf_ytc G n) n 0 r) ∧ 0 ≤ d ∧ rf_yLC S 0 ls d
  | 88, [G, n, S, d] => ∃ ls, rf_yU (rf_ytc G n) n 0 ls ∧ rf_yLC S 0 ls d
  | 74, [c, o, G, n, p, q, A0, W0, l0, A1, W1, l1] => ∃ l : List (Int × Int), rf_yG (rf_ytc G n) (rf_ynt c) o p q (some l) ∧ rf_yR l A0 W0 l0 A1 W1 l1
  | 75, [k, o, G, n, p, c, A0, W0, l0, A1, W1, l1] => ∃ l : List (Int × Int), rf_yst2 (rf_ytc G n) k o p c l ∧ rf_yR l A0 W0 l0 A1 W1 l1
  | 97, [A1, A0, W1, W0] => rf_ybl A1 A0 130 ∧ rf_ybl W1 W0 130
  | 98, [T1, T0, U1, U0] => rf_ybl T1 T0 61 ∧ rf_ybl U1 U0 61
  | 89, [G, n, p, q, A0, W0, l0, A1, W1, l1, T0, U0, T1, U1, m] => ∃ (a : Option (List (Int × Int))) (v : List (Int × Int)), rf_yLL (rf_ytc G n) p q a v ∧ 0 ≤ l0 ∧ 0 ≤ m ∧ rf_yLR A1 W1 T1 U1 130 (61 + m) l0 [(a, v)] l1 ∧ rf_ybl A1 A0 (130 + l0) ∧ rf_ybl W1 W0 (130 + l0) ∧ rf_ybl T1 T0 (61 + m) ∧ rf_ybl U1 U0 (61 + m)
  | 92, [G, n, c, A, W, l, T, U, m] => ∃ ls, (∀ rest, rf_yU (rf_ytc G n) n c rest → rf_yU (rf_ytc G n) n 0 (ls ++ rest)) ∧ (∀ r, rf_yT (rf_ytc G n) n c r → rf_yT (rf_ytc G n) n 0 r) ∧ 0 ≤ l ∧ m = (ls.length : Int) ∧ rf_yLR A W T U 130 61 0 ls l
  | 93, [G, n, A, W, T, U, l, m] => ∃ ls, rf_yU (rf_ytc G n) n 0 ls ∧ m = (ls.length : Int) ∧ 0 ≤ l ∧ rf_yLR A W T U 130 61 0 ls l
  | 95, [S, e, A, W, T, U, m, h] => rf_ylaw S e A W T U m h
  | 99, [A1, A0, W1, W0, k, b] => (∀ j : Nat, (j : Int) < k → rf_dc j A1 = rf_dc (b + j).toNat A0 ∧ rf_dc j W1 = rf_dc (b + j).toNat W0) ∧ ∀ j : Nat, b ≤ (j : Int) → rf_dc j A1 = rf_dc j A0 ∧ rf_dc j W1 = rf_dc j W0
  | 100, [G, n, A, W, T, U, m, l] => ∃ ls, rf_yU (rf_ytc G n) n 0 ls ∧ m = (ls.length : Int) ∧ rf_yLR A W T U 0 0 0 ls l
  | 110, [S, e, N, i, a, h, P] => rf_ywl S e (rf_yvv N) 121 0 [] = rf_ywl S e (rf_yvv N) (121 - i).toNat a (rf_ypl P h.toNat)
  | 111, [S, e, N, r] => r = rf_ywl S e (rf_yvv N) 121 0 []
  | 112, [S, e, f, o, t, b, s, k, r] => r = rf_ywl S e (rf_yv6 f o t b s k) 121 0 []
  | 113, [s, a, b, r] => r = rf_ytwo s a b
  | 120, [A, W, F, a, e, k, n, P] => rf_yrl A W (rf_yvv F) (e - a).toNat a [] = rf_yrl A W (rf_yvv F) (e - k).toNat k (rf_ypl P n.toNat)
  | 121, [A, W, F, a, e, r] => ∃ st, rf_yrl A W (rf_yvv F) (e - a).toNat a [] = some st ∧ ∀ v, st = [v] → r = v
  | 123, [A, W, T, U, m, F, l, a] => ∀ ls l0, rf_ywf A W T U m ls l0 → ∃ rest : List (Option (List (Int × Int)) × List (Int × Int)), (rest.length : Int) = m - l ∧ rf_ywn rest ∧ rf_yLR A W T U 0 l a rest l0 ∧ rf_ylv (rf_yvv F) ls = rf_ylv (rf_yvv F) rest
  | 124, [A, W, T, U, m, F, r] => ∀ ls l0, rf_ywf A W T U m ls l0 → r = rf_ylv (rf_yvv F) ls
  | 130, [T] => rf_ybT T
  | 141, [T, S, e, g, L0, B0, F0, A0, L, B, F, A] => rf_ybT T → rf_yvA F0 A0 → rf_ysC L B F A = rf_yngt (rf_yVc T S e) g (rf_ysC L0 B0 F0 A0) ∧ rf_yvA F A
  | 143, [T, S, e, g, t, f, o, r] => rf_ybT T → r = rf_ylev (rf_yVc T S e) g t f o
  | 145, [T, g, t, ff, wr, ah, r] => r = if rf_dc (71 + g).toNat T = 0 then ff else if rf_dc (71 + g).toNat T = 1 then wr else if rf_dc (71 + g).toNat T = 3 then (if ah = -1 then rf_dc t.toNat T else ah) else rf_dc t.toNat T
  | 146, [T, S, e, g, L0, B0, F0, A0, t, L, B, F, A] => rf_ybT T → rf_yvA F0 A0 → rf_ypC (rf_yVc T S e) g L0 B0 F0 A0 t L B F A ∧ ∀ i : Nat, (i : Int) < t → rf_dc i L0 ≠ -1 ∧ rf_yo (rf_yVc T S e) g (rf_ysC L0 B0 F0 A0) i ≠ -1
  | 148, [c, r] => r = rf_yc20 c
  | 149, [x, r] => r = rf_yc99 x
  | 151, [S, e, f, o, k, b, s, t, c] => (0 ≤ k ∧ k ≤ 9 ∧ 0 ≤ b ∧ b ≤ 20 ∧ 0 ≤ s) → c = rf_yc20 (rf_yraw (rf_ylwC S e) f o k b s t)
  | 152, [T, g, t, k] => k = rf_dc (8 + 4 * g + t).toNat T
  | 153, [T, g, t, b] => b = rf_dc (36 + 4 * g + t).toNat T
  | 154, [T, g, s] => s = rf_ymin (rf_dc (64 + g).toNat T) (rf_dc 78 T)
  | 164, [T, g, r] => r = if rf_dc (71 + g).toNat T = 1 then 1 else 0
  | _, _ => False
/-- the facts' meanings, by kind: 1 a place of a row holds v; 2, 3 a quotient, a remainder; 4 a gt; 5 a change's kind and number; 6 rows of changes; 7 a text's steps; 8, 10, 11 a difference, a sum, a product; 9 a sum that isn't above -/
def rf_XP (xt : Nat → Nat) (k : Nat) (es : List (Option va_E)) (xs : List Int) : Prop :=
  match k, es, xs with
  | 1, [some e], [i, v] => ∃ (cA : ClassId) (n : Nat) (f : Nat → Int32), e = .inl (cA, n, .inl f) ∧ 0 ≤ i ∧ (f i.toNat).toInt = v
  | 2, [], [x, y, z] => z = x.tdiv y
  | 3, [], [x, y, z] => z = x.tmod y
  | 4, [], [x] => rf_gt x
  | 8, [], [x, y, z] => z = x - y
  | 9, [], [x, y, z] => x + y ≤ z
  | 10, [], [x, y, z] => z = x + y
  | 11, [], [x, y, z] => z = x * y
  | 5, [], [k, x] => rf_may k x
  | 6, [some e1, some e2], [n] => ∃ (c1 c2 : ClassId) (n1 n2 : Nat) (f g : Nat → Int32), e1 = .inl (c1, n1, .inl f) ∧ e2 = .inl (c2, n2, .inl g) ∧ ∀ j : Nat, (j : Int) < n → rf_may (f j).toInt (g j).toInt
  | 7, [some e1, some e2], [a, b, d] => ∃ (c1 c2 : ClassId) (n1 n2 : Nat) (f g : Nat → Int32), e1 = .inl (c1, n1, .inl f) ∧ e2 = .inl (c2, n2, .inl g) ∧ 0 ≤ a ∧ a ≤ b ∧ 0 ≤ d ∧ rf_dep f g a.toNat (b - a).toNat = some d.toNat
  | 16, [some e1, some e2], [a, b, d] => ∃ (c1 c2 : ClassId) (n1 n2 : Nat) (f g : Nat → Int32), e1 = .inl (c1, n1, .inl f) ∧ e2 = .inl (c2, n2, .inl g) ∧ 0 ≤ a ∧ a ≤ b ∧ 0 ≤ d ∧ rf_dep f g a.toNat (b - a).toNat = some d.toNat
  | 19, [], [i, v] => 0 ≤ i ∧ v = ((xt (13 + i.toNat) : Nat) : Int) - 2147483648
  | 18, [some e1, some e2, some e3, some e4], [n, s, m, t, d] => rf_ps e1 e2 e3 e4 n s m t d
  | 12, [some e1, some e2, some e3, some e4], [n, s] => rf_txt 130 61 e1 e2 e3 e4 n s
  | 14, [some e1, some e2, some e3, some e4], [n, s] => rf_txt 0 0 e1 e2 e3 e4 n s
  | 15, [some e1, some e2, some e3, some e4], [n, s] => rf_txt 0 0 e1 e2 e3 e4 n s
  | 13, [some e1, some e2], [k, o] => ∃ (c1 c2 : ClassId) (n1 n2 : Nat) (f g : Nat → Int32), e1 = .inl (c1, n1, .inl f) ∧ e2 = .inl (c2, n2, .inl g) ∧ 0 ≤ o ∧ ∀ j : Nat, (j : Int) < k → f j = f (o.toNat + j) ∧ g j = g (o.toNat + j)
  | 17, [some e1, some e2], [i] => ∃ (c1 c2 : ClassId) (n1 n2 : Nat) (f g : Nat → Int32), e1 = .inl (c1, n1, .inl f) ∧ e2 = .inl (c2, n2, .inl g) ∧ ∀ j : Nat, (j : Int) < 40 → (j : Int) ≠ i → rf_may (f j).toInt (g j).toInt
  | 30, [some e], xs => rf_ct e (rf_chn xs)
  | 36, [], i :: r :: xs => 0 ≤ i ∧ r = rf_dc i.toNat (rf_chn xs)
  | 31, [], [h, g, i, v] => 0 ≤ i ∧ h = rf_up i.toNat v g
  | 41, [], h :: xs => h = rf_chn xs
  | 33, [], [x, y, z] => z + 1 ≤ x + y
  | 35, [], [o, a, b, r] => r = rf_wop o.toNat a b
  | 40, [], k :: xs => rf_XQ k.toNat xs
  | 99, [], [_] => True
  | _, _, _ => False
theorem rf_XP_some {xt : Nat → Nat} {k : Nat} {es : List (Option va_E)} {xs : List Int} (h : rf_XP xt k es xs) : ∀ x ∈ es, ∃ e, x = some e := by
  intro x hx
  unfold rf_XP at h
  split at h <;> first
    | exact h.elim
    | (simp only [List.mem_cons, List.not_mem_nil, or_false] at hx; rcases hx with rfl | rfl | rfl | rfl <;> exact ⟨_, rfl⟩)
    | (simp only [List.mem_cons, List.not_mem_nil, or_false] at hx; rcases hx with rfl | rfl <;> exact ⟨_, rfl⟩)
    | (simp only [List.mem_cons, List.not_mem_nil, or_false] at hx; exact ⟨_, hx⟩)
    | (simp only [List.not_mem_nil] at hx)
def rf_fact (xt : Nat → Nat) (ρ : List Int) (es : List va_E) (f : rf_FC) : Prop := ∃ xs, rf_L (rf_num ρ) f.2.2 xs ∧ rf_XP xt f.1 (f.2.1.map (fun k => es[k]?)) xs
def rf_facts (xt : Nat → Nat) (ρ : List Int) (es : List va_E) (fs : List rf_FC) : Prop := ∀ f ∈ fs, rf_fact xt ρ es f
theorem rf_num_app {ρ l : List Int} {a : rf_AV} {x : Int} (h : rf_num ρ a x) : rf_num (ρ ++ l) a x := by
  obtain ⟨r, h1, h2⟩ := h
  exact ⟨r, rf_r_app h1, h2⟩
theorem rf_facts_app {xt : Nat → Nat} {ρ l : List Int} {es : List va_E} {fs : List rf_FC} (h : rf_facts xt ρ es fs) : rf_facts xt (ρ ++ l) es fs := by
  intro f hf
  obtain ⟨xs, h1, h2⟩ := h f hf
  exact ⟨xs, rf_L_mono (fun _ _ k => rf_num_app k) h1, h2⟩
theorem rf_facts_more {xt : Nat → Nat} {ρ : List Int} {es l : List va_E} {fs : List rf_FC} (h : rf_facts xt ρ es fs) : rf_facts xt ρ (es ++ l) fs := by
  intro f hf
  obtain ⟨xs, h1, h2⟩ := h f hf
  refine ⟨xs, h1, ?_⟩
  have e : f.2.1.map (fun k => (es ++ l)[k]?) = f.2.1.map (fun k => es[k]?) := by
    apply List.map_congr_left
    intro k hk
    obtain ⟨e, he⟩ := rf_XP_some h2 (es[k]?) (List.mem_map.mpr ⟨k, hk, rfl⟩)
    rw [List.getElem?_append_left (List.getElem?_eq_some_iff.mp he).1]
  rw [e]
  exact h2
def rf_loc (ρ : List Int) (ad : List Nat) (xt : Nat → Nat) (q : Nat × rf_AV) (w : Nat × Value) : Prop := q.1 = w.1 ∧ rf_gv ρ ad xt q.2 w.2
/-- a state of the machine as the picture S has it; ρ0: the ghosts and the cells that stood at the beginning -/
def rf_Rel (D : va_G) (cl : List vw_C) (tys : List (ClassId × FieldType)) (A : Nat → Prop) (H0 : Heap) (xt : Nat → Nat) (nL : Nat) (ρ0 : List Int × List Nat) (S : rf_AS) (ρ : List Int) (ad : List Nat) (ws : va_W) (H : Heap) (locs : List Loc) (ls : Array Slot) (st : List Value) : Prop :=
  ((∃ l, ρ = ρ0.1 ++ l) ∧ ∃ l, ad = ρ0.2 ++ l) ∧ rf_okE ρ S.1 ∧ ws.map Prod.fst = ad ∧ rf_L (rf_cell ρ ad xt tys) S.2.2.2.1 (ws.map Prod.snd) ∧ (va_P D cl ws H ∧ va_D A ws ∧ va_S A H0 H locs ∧ rf_facts xt ρ (ws.map Prod.snd) S.2.2.2.2.1) ∧
  (∃ lv, lv_has ls nL lv ∧ rf_L (rf_loc ρ ad xt) S.2.1 lv) ∧ rf_L (rf_gv ρ ad xt) S.2.2.1 st
