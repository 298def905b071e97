/-! RULES: what a picture's facts give; a rule makes of a picture's ghosts and facts some, one of which then holds -/
def rf_aveq (a b : rf_AV) : Bool := Nat.beq a.1 b.1 && (Nat.beq a.2.1 b.2.1 && decide (a.2.2 = b.2.2))
theorem rf_aveq_spec {a b : rf_AV} (h : rf_aveq a b = true) : a = b := by
  obtain ⟨a1, a2, a3⟩ := a
  obtain ⟨b1, b2, b3⟩ := b
  simp only [rf_aveq, Bool.and_eq_true, decide_eq_true_eq] at h
  rw [Nat.eq_of_beq_eq_true h.1, Nat.eq_of_beq_eq_true h.2.1, h.2.2]
theorem rf_all2_eq {α : Type} {f : α → α → Bool} (hf : ∀ a b, f a b = true → a = b) : ∀ {as bs : List α}, rf_all2 f as bs = true → as = bs
  | [], [], _ => rfl
  | a :: as, b :: bs, h => by
    simp only [rf_all2, Bool.and_eq_true] at h
    rw [hf a b h.1, rf_all2_eq hf h.2]
  | [], _ :: _, h => by simp [rf_all2] at h
  | _ :: _, [], h => by simp [rf_all2] at h
def rf_has (fs : List rf_FC) (k : Nat) (qs : List Nat) (xs : List rf_AV) : Bool := fs.any (fun g => Nat.beq k g.1 && (rf_all2 Nat.beq qs g.2.1 && rf_all2 rf_aveq xs g.2.2))
theorem rf_has_spec {xt : Nat → Nat} {ρ : List Int} {es : List va_E} {fs : List rf_FC} {k : Nat} {qs : List Nat} {xs : List rf_AV} (hf : rf_facts xt ρ es fs) (h : rf_has fs k qs xs = true) : rf_fact xt ρ es (k, qs, xs) := by
  obtain ⟨g, g1, g2⟩ := List.any_eq_true.mp h
  simp only [Bool.and_eq_true] at g2
  have e : g = (k, qs, xs) := by
    obtain ⟨a, b, c⟩ := g
    rw [Nat.eq_of_beq_eq_true g2.1, rf_all2_eq (fun a b => Nat.eq_of_beq_eq_true) g2.2.1, rf_all2_eq (fun a b => rf_aveq_spec) g2.2.2]
  rw [← e]
  exact hf g g1
/-- the row at place q -/
def rf_at (es : List va_E) (q : Nat) (f : Nat → Int32) : Prop := ∃ (c : ClassId) (n : Nat), es[q]? = some (.inl (c, n, .inl f))
theorem rf_at_eq {es : List va_E} {q : Nat} {f g : Nat → Int32} (h1 : rf_at es q f) (h2 : rf_at es q g) : g = f := by
  obtain ⟨c, n, h1⟩ := h1
  obtain ⟨c', n', h2⟩ := h2
  rw [h1] at h2
  cases h2
  rfl
section
variable {xt : Nat → Nat} {ρ : List Int} {es : List va_E} {E : rf_EV}
theorem rf_x1 {q : Nat} {i v : rf_AV} (h : rf_fact xt ρ es (1, [q], [i, v])) : ∃ iv vv f, rf_num ρ i iv ∧ rf_num ρ v vv ∧ rf_at es q f ∧ 0 ≤ iv ∧ (f iv.toNat).toInt = vv := by
  obtain ⟨iv, vv, h1, h2, c1, n1, f, h3, h4, h5⟩ := rf_f1 h
  exact ⟨iv, vv, f, h1, h2, ⟨c1, n1, h3⟩, h4, h5⟩
theorem rf_x6 {q1 q2 : Nat} {n : rf_AV} (h : rf_fact xt ρ es (6, [q1, q2], [n])) : ∃ nv f g, rf_num ρ n nv ∧ rf_at es q1 f ∧ rf_at es q2 g ∧ ∀ j : Nat, (j : Int) < nv → rf_may (f j).toInt (g j).toInt := by
  obtain ⟨nv, h1, c1, c2, n1, n2, f, g, h3, h4, h5⟩ := rf_f6 h
  exact ⟨nv, f, g, h1, ⟨c1, n1, h3⟩, ⟨c2, n2, h4⟩, h5⟩
theorem rf_x17 {q1 q2 : Nat} {n : rf_AV} (h : rf_fact xt ρ es (17, [q1, q2], [n])) : ∃ nv f g, rf_num ρ n nv ∧ rf_at es q1 f ∧ rf_at es q2 g ∧ ∀ j : Nat, (j : Int) < 40 → (j : Int) ≠ nv → rf_may (f j).toInt (g j).toInt := by
  obtain ⟨nv, h1, c1, c2, n1, n2, f, g, h3, h4, h5⟩ := rf_f17 h
  exact ⟨nv, f, g, h1, ⟨c1, n1, h3⟩, ⟨c2, n2, h4⟩, h5⟩
theorem rf_m6 {q1 q2 : Nat} {n : rf_AV} {nv : Int} {f g : Nat → Int32} (hn : rf_num ρ n nv) (h1 : rf_at es q1 f) (h2 : rf_at es q2 g) (h : ∀ j : Nat, (j : Int) < nv → rf_may (f j).toInt (g j).toInt) : rf_fact xt ρ es (6, [q1, q2], [n]) := by
  obtain ⟨c1, n1, h1⟩ := h1
  obtain ⟨c2, n2, h2⟩ := h2
  refine ⟨[nv], ⟨hn, trivial⟩, ?_⟩
  dsimp only [List.map]
  rw [h1, h2]
  exact ⟨c1, c2, n1, n2, f, g, rfl, rfl, h⟩
theorem rf_m17 {q1 q2 : Nat} {n : rf_AV} {nv : Int} {f g : Nat → Int32} (hn : rf_num ρ n nv) (h1 : rf_at es q1 f) (h2 : rf_at es q2 g) (h : ∀ j : Nat, (j : Int) < 40 → (j : Int) ≠ nv → rf_may (f j).toInt (g j).toInt) : rf_fact xt ρ es (17, [q1, q2], [n]) := by
  obtain ⟨c1, n1, h1⟩ := h1
  obtain ⟨c2, n2, h2⟩ := h2
  refine ⟨[nv], ⟨hn, trivial⟩, ?_⟩
  dsimp only [List.map]
  rw [h1, h2]
  exact ⟨c1, c2, n1, n2, f, g, rfl, rfl, h⟩
theorem rf_x9 {x y z : rf_AV} (h : rf_fact xt ρ es (9, [], [x, y, z])) : ∃ a b c, rf_num ρ x a ∧ rf_num ρ y b ∧ rf_num ρ z c ∧ a + b ≤ c := by
  obtain ⟨xs, hx, hX⟩ := h
  match xs, hx with
  | [a, b, c], hx => exact ⟨a, b, c, hx.1, hx.2.1, hx.2.2.1, hX⟩
theorem rf_x8 {x y z : rf_AV} (h : rf_fact xt ρ es (8, [], [x, y, z])) : ∃ a b c, rf_num ρ x a ∧ rf_num ρ y b ∧ rf_num ρ z c ∧ c = a - b := by
  obtain ⟨xs, hx, hX⟩ := h
  match xs, hx with
  | [a, b, c], hx => exact ⟨a, b, c, hx.1, hx.2.1, hx.2.2.1, hX⟩
theorem rf_x10 {x y z : rf_AV} (h : rf_fact xt ρ es (10, [], [x, y, z])) : ∃ a b c, rf_num ρ x a ∧ rf_num ρ y b ∧ rf_num ρ z c ∧ c = a + b := by
  obtain ⟨xs, hx, hX⟩ := h
  match xs, hx with
  | [a, b, c], hx => exact ⟨a, b, c, hx.1, hx.2.1, hx.2.2.1, hX⟩
theorem rf_m9 {x y z : rf_AV} {a b c : Int} (h1 : rf_num ρ x a) (h2 : rf_num ρ y b) (h3 : rf_num ρ z c) (h : a + b ≤ c) : rf_fact xt ρ es (9, [], [x, y, z]) := ⟨[a, b, c], ⟨h1, h2, h3, trivial⟩, h⟩
theorem rf_es2 {k k1 k2 : Nat} {xs : List Int} (hX : rf_XP xt k [es[k1]?, es[k2]?] xs) : ∃ e1 e2, es[k1]? = some e1 ∧ es[k2]? = some e2 := by
  have hs := rf_XP_some hX
  obtain ⟨e1, h1⟩ := hs es[k1]? (by simp)
  obtain ⟨e2, h2⟩ := hs es[k2]? (by simp)
  exact ⟨e1, e2, h1, h2⟩
theorem rf_es4 {k k1 k2 k3 k4 : Nat} {xs : List Int} (hX : rf_XP xt k [es[k1]?, es[k2]?, es[k3]?, es[k4]?] xs) : ∃ e1 e2 e3 e4, es[k1]? = some e1 ∧ es[k2]? = some e2 ∧ es[k3]? = some e3 ∧ es[k4]? = some e4 := by
  have hs := rf_XP_some hX
  obtain ⟨e1, h1⟩ := hs es[k1]? (by simp)
  obtain ⟨e2, h2⟩ := hs es[k2]? (by simp)
  obtain ⟨e3, h3⟩ := hs es[k3]? (by simp)
  obtain ⟨e4, h4⟩ := hs es[k4]? (by simp)
  exact ⟨e1, e2, e3, e4, h1, h2, h3, h4⟩
theorem rf_x7 {q1 q2 : Nat} {a b d : rf_AV} (h : rf_fact xt ρ es (7, [q1, q2], [a, b, d])) : ∃ av bv dv f g, rf_num ρ a av ∧ rf_num ρ b bv ∧ rf_num ρ d dv ∧ rf_at es q1 f ∧ rf_at es q2 g ∧ 0 ≤ av ∧ av ≤ bv ∧ 0 ≤ dv ∧ rf_dep f g av.toNat (bv - av).toNat = some dv.toNat := by
  obtain ⟨xs, hx, hX⟩ := h
  match xs, hx with
  | [av, bv, dv], hx =>
    dsimp only [List.map] at hX
    obtain ⟨e1, e2, h1, h2⟩ := rf_es2 hX
    rw [h1, h2] at hX
    obtain ⟨c1, c2, n1, n2, f, g, q1, q2, q3⟩ := hX
    exact ⟨av, bv, dv, f, g, hx.1, hx.2.1, hx.2.2.1, ⟨c1, n1, by rw [h1, q1]⟩, ⟨c2, n2, by rw [h2, q2]⟩, q3⟩
theorem rf_m7 {q1 q2 : Nat} {a b d : rf_AV} {av bv dv : Int} {f g : Nat → Int32} (ha : rf_num ρ a av) (hb : rf_num ρ b bv) (hd : rf_num ρ d dv) (h1 : rf_at es q1 f) (h2 : rf_at es q2 g) (h : 0 ≤ av ∧ av ≤ bv ∧ 0 ≤ dv ∧ rf_dep f g av.toNat (bv - av).toNat = some dv.toNat) : rf_fact xt ρ es (7, [q1, q2], [a, b, d]) := by
  obtain ⟨c1, n1, h1⟩ := h1
  obtain ⟨c2, n2, h2⟩ := h2
  refine ⟨[av, bv, dv], ⟨ha, hb, hd, trivial⟩, ?_⟩
  dsimp only [List.map]
  rw [h1, h2]
  exact ⟨c1, c2, n1, n2, f, g, rfl, rfl, h⟩
theorem rf_x16 {q1 q2 : Nat} {a b d : rf_AV} (h : rf_fact xt ρ es (16, [q1, q2], [a, b, d])) : ∃ av bv dv f g, rf_num ρ a av ∧ rf_num ρ b bv ∧ rf_num ρ d dv ∧ rf_at es q1 f ∧ rf_at es q2 g ∧ 0 ≤ av ∧ av ≤ bv ∧ 0 ≤ dv ∧ rf_dep f g av.toNat (bv - av).toNat = some dv.toNat := by
  obtain ⟨xs, hx, hX⟩ := h
  match xs, hx with
  | [av, bv, dv], hx =>
    dsimp only [List.map] at hX
    obtain ⟨e1, e2, h1, h2⟩ := rf_es2 hX
    rw [h1, h2] at hX
    obtain ⟨c1, c2, n1, n2, f, g, q1, q2, q3⟩ := hX
    exact ⟨av, bv, dv, f, g, hx.1, hx.2.1, hx.2.2.1, ⟨c1, n1, by rw [h1, q1]⟩, ⟨c2, n2, by rw [h2, q2]⟩, q3⟩
theorem rf_m16 {q1 q2 : Nat} {a b d : rf_AV} {av bv dv : Int} {f g : Nat → Int32} (ha : rf_num ρ a av) (hb : rf_num ρ b bv) (hd : rf_num ρ d dv) (h1 : rf_at es q1 f) (h2 : rf_at es q2 g) (h : 0 ≤ av ∧ av ≤ bv ∧ 0 ≤ dv ∧ rf_dep f g av.toNat (bv - av).toNat = some dv.toNat) : rf_fact xt ρ es (16, [q1, q2], [a, b, d]) := by
  obtain ⟨c1, n1, h1⟩ := h1
  obtain ⟨c2, n2, h2⟩ := h2
  refine ⟨[av, bv, dv], ⟨ha, hb, hd, trivial⟩, ?_⟩
  dsimp only [List.map]
  rw [h1, h2]
  exact ⟨c1, c2, n1, n2, f, g, rfl, rfl, h⟩
theorem rf_x12 {k1 k2 k3 k4 : Nat} {n s : rf_AV} (h : rf_fact xt ρ es (12, [k1, k2, k3, k4], [n, s])) : ∃ nv sv f g t u, rf_num ρ n nv ∧ rf_num ρ s sv ∧ rf_at es k1 f ∧ rf_at es k2 g ∧ rf_at es k3 t ∧ rf_at es k4 u ∧ 0 ≤ nv ∧ 0 ≤ sv ∧ rf_lin f g t u 130 61 nv.toNat = some sv.toNat := by
  obtain ⟨xs, hx, hX⟩ := h
  match xs, hx with
  | [nv, sv], hx =>
    dsimp only [List.map] at hX
    obtain ⟨e1, e2, e3, e4, h1, h2, h3, h4⟩ := rf_es4 hX
    rw [h1, h2, h3, h4] at hX
    obtain ⟨c1, c2, c3, c4, n1, n2, n3, n4, f, g, t, u, q1, q2, q3, q4, q5⟩ := hX
    exact ⟨nv, sv, f, g, t, u, hx.1, hx.2.1, ⟨c1, n1, by rw [h1, q1]⟩, ⟨c2, n2, by rw [h2, q2]⟩, ⟨c3, n3, by rw [h3, q3]⟩, ⟨c4, n4, by rw [h4, q4]⟩, q5⟩
theorem rf_m12 {k1 k2 k3 k4 : Nat} {n s : rf_AV} {nv sv : Int} {f g t u : Nat → Int32} (a1 : rf_num ρ n nv) (a2 : rf_num ρ s sv) (h1 : rf_at es k1 f) (h2 : rf_at es k2 g) (h3 : rf_at es k3 t) (h4 : rf_at es k4 u) (h : 0 ≤ nv ∧ 0 ≤ sv ∧ rf_lin f g t u 130 61 nv.toNat = some sv.toNat) : rf_fact xt ρ es (12, [k1, k2, k3, k4], [n, s]) := by
  obtain ⟨c1, n1, h1⟩ := h1
  obtain ⟨c2, n2, h2⟩ := h2
  obtain ⟨c3, n3, h3⟩ := h3
  obtain ⟨c4, n4, h4⟩ := h4
  refine ⟨[nv, sv], ⟨a1, a2, trivial⟩, ?_⟩
  dsimp only [List.map]
  rw [h1, h2, h3, h4]
  exact ⟨c1, c2, c3, c4, n1, n2, n3, n4, f, g, t, u, rfl, rfl, rfl, rfl, h⟩
theorem rf_x14 {k1 k2 k3 k4 : Nat} {n s : rf_AV} (h : rf_fact xt ρ es (14, [k1, k2, k3, k4], [n, s])) : ∃ nv sv f g t u, rf_num ρ n nv ∧ rf_num ρ s sv ∧ rf_at es k1 f ∧ rf_at es k2 g ∧ rf_at es k3 t ∧ rf_at es k4 u ∧ 0 ≤ nv ∧ 0 ≤ sv ∧ rf_lin f g t u 0 0 nv.toNat = some sv.toNat := by
  obtain ⟨xs, hx, hX⟩ := h
  match xs, hx with
  | [nv, sv], hx =>
    dsimp only [List.map] at hX
    obtain ⟨e1, e2, e3, e4, h1, h2, h3, h4⟩ := rf_es4 hX
    rw [h1, h2, h3, h4] at hX
    obtain ⟨c1, c2, c3, c4, n1, n2, n3, n4, f, g, t, u, q1, q2, q3, q4, q5⟩ := hX
    exact ⟨nv, sv, f, g, t, u, hx.1, hx.2.1, ⟨c1, n1, by rw [h1, q1]⟩, ⟨c2, n2, by rw [h2, q2]⟩, ⟨c3, n3, by rw [h3, q3]⟩, ⟨c4, n4, by rw [h4, q4]⟩, q5⟩
theorem rf_m14 {k1 k2 k3 k4 : Nat} {n s : rf_AV} {nv sv : Int} {f g t u : Nat → Int32} (a1 : rf_num ρ n nv) (a2 : rf_num ρ s sv) (h1 : rf_at es k1 f) (h2 : rf_at es k2 g) (h3 : rf_at es k3 t) (h4 : rf_at es k4 u) (h : 0 ≤ nv ∧ 0 ≤ sv ∧ rf_lin f g t u 0 0 nv.toNat = some sv.toNat) : rf_fact xt ρ es (14, [k1, k2, k3, k4], [n, s]) := by
  obtain ⟨c1, n1, h1⟩ := h1
  obtain ⟨c2, n2, h2⟩ := h2
  obtain ⟨c3, n3, h3⟩ := h3
  obtain ⟨c4, n4, h4⟩ := h4
  refine ⟨[nv, sv], ⟨a1, a2, trivial⟩, ?_⟩
  dsimp only [List.map]
  rw [h1, h2, h3, h4]
  exact ⟨c1, c2, c3, c4, n1, n2, n3, n4, f, g, t, u, rfl, rfl, rfl, rfl, h⟩
theorem rf_x15 {k1 k2 k3 k4 : Nat} {n s : rf_AV} (h : rf_fact xt ρ es (15, [k1, k2, k3, k4], [n, s])) : ∃ nv sv f g t u, rf_num ρ n nv ∧ rf_num ρ s sv ∧ rf_at es k1 f ∧ rf_at es k2 g ∧ rf_at es k3 t ∧ rf_at es k4 u ∧ 0 ≤ nv ∧ 0 ≤ sv ∧ rf_lin f g t u 0 0 nv.toNat = some sv.toNat := by
  obtain ⟨xs, hx, hX⟩ := h
  match xs, hx with
  | [nv, sv], hx =>
    dsimp only [List.map] at hX
    obtain ⟨e1, e2, e3, e4, h1, h2, h3, h4⟩ := rf_es4 hX
    rw [h1, h2, h3, h4] at hX
    obtain ⟨c1, c2, c3, c4, n1, n2, n3, n4, f, g, t, u, q1, q2, q3, q4, q5⟩ := hX
    exact ⟨nv, sv, f, g, t, u, hx.1, hx.2.1, ⟨c1, n1, by rw [h1, q1]⟩, ⟨c2, n2, by rw [h2, q2]⟩, ⟨c3, n3, by rw [h3, q3]⟩, ⟨c4, n4, by rw [h4, q4]⟩, q5⟩
theorem rf_m15 {k1 k2 k3 k4 : Nat} {n s : rf_AV} {nv sv : Int} {f g t u : Nat → Int32} (a1 : rf_num ρ n nv) (a2 : rf_num ρ s sv) (h1 : rf_at es k1 f) (h2 : rf_at es k2 g) (h3 : rf_at es k3 t) (h4 : rf_at es k4 u) (h : 0 ≤ nv ∧ 0 ≤ sv ∧ rf_lin f g t u 0 0 nv.toNat = some sv.toNat) : rf_fact xt ρ es (15, [k1, k2, k3, k4], [n, s]) := by
  obtain ⟨c1, n1, h1⟩ := h1
  obtain ⟨c2, n2, h2⟩ := h2
  obtain ⟨c3, n3, h3⟩ := h3
  obtain ⟨c4, n4, h4⟩ := h4
  refine ⟨[nv, sv], ⟨a1, a2, trivial⟩, ?_⟩
  dsimp only [List.map]
  rw [h1, h2, h3, h4]
  exact ⟨c1, c2, c3, c4, n1, n2, n3, n4, f, g, t, u, rfl, rfl, rfl, rfl, h⟩
theorem rf_x13 {q1 q2 : Nat} {k o : rf_AV} (h : rf_fact xt ρ es (13, [q1, q2], [k, o])) : ∃ kv ov f g, rf_num ρ k kv ∧ rf_num ρ o ov ∧ rf_at es q1 f ∧ rf_at es q2 g ∧ 0 ≤ ov ∧ ∀ j : Nat, (j : Int) < kv → f j = f (ov.toNat + j) ∧ g j = g (ov.toNat + j) := by
  obtain ⟨xs, hx, hX⟩ := h
  match xs, hx with
  | [kv, ov], hx =>
    dsimp only [List.map] at hX
    obtain ⟨e1, e2, h1, h2⟩ := rf_es2 hX
    rw [h1, h2] at hX
    obtain ⟨c1, c2, n1, n2, f, g, q1, q2, q3, q4⟩ := hX
    exact ⟨kv, ov, f, g, hx.1, hx.2.1, ⟨c1, n1, by rw [h1, q1]⟩, ⟨c2, n2, by rw [h2, q2]⟩, q3, q4⟩
theorem rf_m13 {q1 q2 : Nat} {k o : rf_AV} {kv ov : Int} {f g : Nat → Int32} (hk : rf_num ρ k kv) (ho : rf_num ρ o ov) (h1 : rf_at es q1 f) (h2 : rf_at es q2 g) (h0 : 0 ≤ ov) (h : ∀ j : Nat, (j : Int) < kv → f j = f (ov.toNat + j) ∧ g j = g (ov.toNat + j)) : rf_fact xt ρ es (13, [q1, q2], [k, o]) := by
  obtain ⟨c1, n1, h1⟩ := h1
  obtain ⟨c2, n2, h2⟩ := h2
  refine ⟨[kv, ov], ⟨hk, ho, trivial⟩, ?_⟩
  dsimp only [List.map]
  rw [h1, h2]
  exact ⟨c1, c2, n1, n2, f, g, rfl, rfl, h0, h⟩
theorem rf_x18 {k1 k2 k3 k4 : Nat} {n s m t d : rf_AV} (h : rf_fact xt ρ es (18, [k1, k2, k3, k4], [n, s, m, t, d])) : ∃ nv sv mv tv dv f g tt u, rf_num ρ n nv ∧ rf_num ρ s sv ∧ rf_num ρ m mv ∧ rf_num ρ t tv ∧ rf_num ρ d dv ∧ rf_at es k1 f ∧ rf_at es k2 g ∧ rf_at es k3 tt ∧ rf_at es k4 u ∧ 0 ≤ nv ∧ 0 ≤ sv ∧ sv ≤ mv ∧ mv ≤ tv ∧ nv ≤ dv ∧ rf_lin f g tt u 130 61 nv.toNat = some sv.toNat ∧ (mv = sv ∨ rf_dep f g (130 + sv.toNat) (mv.toNat - sv.toNat) = some 1) ∧ rf_dep f g (130 + mv.toNat) (tv.toNat - mv.toNat) = some (dv - nv).toNat := by
  obtain ⟨xs, hx, hX⟩ := h
  match xs, hx with
  | [nv, sv, mv, tv, dv], hx =>
    dsimp only [List.map] at hX
    obtain ⟨e1, e2, e3, e4, h1, h2, h3, h4⟩ := rf_es4 hX
    rw [h1, h2, h3, h4] at hX
    obtain ⟨c1, c2, c3, c4, n1, n2, n3, n4, f, g, tt, u, q1, q2, q3, q4, q5⟩ := hX
    exact ⟨nv, sv, mv, tv, dv, f, g, tt, u, hx.1, hx.2.1, hx.2.2.1, hx.2.2.2.1, hx.2.2.2.2.1, ⟨c1, n1, by rw [h1, q1]⟩, ⟨c2, n2, by rw [h2, q2]⟩, ⟨c3, n3, by rw [h3, q3]⟩, ⟨c4, n4, by rw [h4, q4]⟩, q5⟩
theorem rf_m18 {k1 k2 k3 k4 : Nat} {n s m t d : rf_AV} {nv sv mv tv dv : Int} {f g tt u : Nat → Int32} (a1 : rf_num ρ n nv) (a2 : rf_num ρ s sv) (a3 : rf_num ρ m mv) (a4 : rf_num ρ t tv) (a5 : rf_num ρ d dv) (h1 : rf_at es k1 f) (h2 : rf_at es k2 g) (h3 : rf_at es k3 tt) (h4 : rf_at es k4 u) (h : 0 ≤ nv ∧ 0 ≤ sv ∧ sv ≤ mv ∧ mv ≤ tv ∧ nv ≤ dv ∧ rf_lin f g tt u 130 61 nv.toNat = some sv.toNat ∧ (mv = sv ∨ rf_dep f g (130 + sv.toNat) (mv.toNat - sv.toNat) = some 1) ∧ rf_dep f g (130 + mv.toNat) (tv.toNat - mv.toNat) = some (dv - nv).toNat) : rf_fact xt ρ es (18, [k1, k2, k3, k4], [n, s, m, t, d]) := by
  obtain ⟨c1, n1, h1⟩ := h1
  obtain ⟨c2, n2, h2⟩ := h2
  obtain ⟨c3, n3, h3⟩ := h3
  obtain ⟨c4, n4, h4⟩ := h4
  refine ⟨[nv, sv, mv, tv, dv], ⟨a1, a2, a3, a4, a5, trivial⟩, ?_⟩
  dsimp only [List.map]
  rw [h1, h2, h3, h4]
  exact ⟨c1, c2, c3, c4, n1, n2, n3, n4, f, g, tt, u, rfl, rfl, rfl, rfl, h⟩
end
/-! texts -/
theorem rf_dep_le {f g : Nat → Int32} {a : Nat} : ∀ {n d : Nat}, rf_dep f g a n = some d → d ≤ n
  | 0, d, h => by cases h; exact Nat.le_refl _
  | n + 1, d, h => by
    simp only [rf_dep] at h
    cases e : rf_dep f g a n with
    | none => rw [e] at h; cases h
    | some d0 =>
      have ih := rf_dep_le e
      rw [e] at h
      dsimp only at h
      split at h
      · cases h; omega
      · split at h
        · split at h
          · cases h; omega
          · cases h
        · split at h
          · split at h
            · cases h; omega
            · cases h
          · split at h
            · cases h; omega
            · cases h
theorem rf_dep_pre {f g : Nat → Int32} {a k : Nat} : ∀ {m d : Nat}, rf_dep f g a (k + m) = some d → ∃ d', rf_dep f g a k = some d'
  | 0, d, h => ⟨d, h⟩
  | m + 1, d, h => by
    have h' : rf_dep f g a ((k + m) + 1) = some d := h
    simp only [rf_dep] at h'
    cases e : rf_dep f g a (k + m) with
    | none => rw [e] at h'; cases h'
    | some d0 => exact rf_dep_pre e
theorem rf_dep_shift {f g : Nat → Int32} {a b : Nat} : ∀ {m : Nat}, (∀ j, j < m → f (a + j) = f (b + j) ∧ g (a + j) = g (b + j)) → rf_dep f g a m = rf_dep f g b m
  | 0, _ => rfl
  | m + 1, h => by
    have ih : rf_dep f g a m = rf_dep f g b m := rf_dep_shift (fun j hj => h j (by omega))
    obtain ⟨e1, e2⟩ := h m (by omega)
    simp only [rf_dep, ih, e1, e2]
theorem rf_lin_len {f g t u : Nat → Int32} {ba lb : Nat} : ∀ {n s : Nat}, rf_lin f g t u ba lb n = some s → n ≤ s
  | 0, s, _ => Nat.zero_le _
  | n + 1, s, h => by
    simp only [rf_lin] at h
    cases e : rf_lin f g t u ba lb n with
    | none => rw [e] at h; cases h
    | some r =>
      have ih := rf_lin_len e
      rw [e] at h
      dsimp only at h
      split at h
      next hc =>
        cases h
        have := rf_dep_le hc.2.2.2.2
        omega
      next => cases h
theorem rf_lin_at {f g t u : Nat → Int32} {ba lb n s l r : Nat} (h : rf_lin f g t u ba lb n = some s) (hl : l < n) (h2 : rf_lin f g t u ba lb l = some r) : ((r : Int) ≤ (t (lb + l)).toInt ∧ (t (lb + l)).toInt ≤ (u (lb + l)).toInt ∧ (u (lb + l)).toInt ≤ 130) ∧ ((t (lb + l)).toInt = r ∨ rf_dep f g (ba + r) ((t (lb + l)).toInt.toNat - r) = some 1) ∧ rf_dep f g (ba + (t (lb + l)).toInt.toNat) ((u (lb + l)).toInt.toNat - (t (lb + l)).toInt.toNat) = some 1 ∧ rf_lin f g t u ba lb (l + 1) = some (u (lb + l)).toInt.toNat := by
  obtain ⟨r', e1, -⟩ := rf_lin_le h (k := l + 1) hl
  have e2 := e1
  simp only [rf_lin, h2] at e2
  split at e2
  next hc =>
    cases e2
    exact ⟨⟨hc.1, hc.2.1, hc.2.2.1⟩, hc.2.2.2.1, hc.2.2.2.2, e1⟩
  next => cases e2
theorem rf_lin_copy {f g t u : Nat → Int32} : ∀ {n s : Nat}, rf_lin f g t u 130 61 n = some s → (∀ j, j < s → f j = f (130 + j) ∧ g j = g (130 + j)) → (∀ j, j < n → t j = t (61 + j) ∧ u j = u (61 + j)) → rf_lin f g t u 0 0 n = some s
  | 0, s, h, _, _ => h
  | n + 1, s, h, h1, h2 => by
    obtain ⟨r, e, hr⟩ := rf_lin_le h (k := n) (by omega)
    obtain ⟨⟨b1, b2, b3⟩, b4, b5, b6⟩ := rf_lin_at h (by omega) e
    rw [h] at b6
    cases b6
    have ih := rf_lin_copy e (fun j hj => h1 j (by omega)) (fun j hj => h2 j (by omega))
    obtain ⟨e1, e2⟩ := h2 n (by omega)
    have z1 : t (0 + n) = t (61 + n) := by rw [Nat.zero_add]; exact e1
    have z2 : u (0 + n) = u (61 + n) := by rw [Nat.zero_add]; exact e2
    have d1 : rf_dep f g (0 + r) ((t (61 + n)).toInt.toNat - r) = rf_dep f g (130 + r) ((t (61 + n)).toInt.toNat - r) := rf_dep_shift (fun j hj => by
      have := h1 (r + j) (by omega)
      rw [show 0 + r + j = r + j by omega, show 130 + r + j = 130 + (r + j) by omega]
      exact this)
    have d2 : rf_dep f g (0 + (t (61 + n)).toInt.toNat) ((u (61 + n)).toInt.toNat - (t (61 + n)).toInt.toNat) = rf_dep f g (130 + (t (61 + n)).toInt.toNat) ((u (61 + n)).toInt.toNat - (t (61 + n)).toInt.toNat) := rf_dep_shift (fun j hj => by
      have := h1 ((t (61 + n)).toInt.toNat + j) (by omega)
      rw [show 0 + (t (61 + n)).toInt.toNat + j = (t (61 + n)).toInt.toNat + j by omega, show 130 + (t (61 + n)).toInt.toNat + j = 130 + ((t (61 + n)).toInt.toNat + j) by omega]
      exact this)
    simp only [rf_lin, ih, z1, z2, d1, d2]
    rw [if_pos ⟨b1, b2, b3, b4, b5⟩]
