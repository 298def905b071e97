/-! RULES, one by one -/
abbrev rf_ES : Type := rf_EV × List rf_FC
def rf_OKR (xt : Nat → Nat) (ρ : List Int) (es : List va_E) (z : rf_ES) : Prop := rf_okE ρ z.1 ∧ rf_facts xt ρ es z.2
def rf_snd (z : rf_ES) (zs : List rf_ES) : Prop := ∀ (xt : Nat → Nat) (ρ : List Int) (es : List va_E), rf_OKR xt ρ es z → ∃ z' ∈ zs, ∃ l, rf_OKR xt (ρ ++ l) es z'
theorem rf_snd_self {z : rf_ES} : rf_snd z [z] := fun xt ρ es h => ⟨z, List.mem_cons_self, [], by rw [List.append_nil]; exact h⟩
theorem rf_facts_cons {xt : Nat → Nat} {ρ : List Int} {es : List va_E} {fs : List rf_FC} {f : rf_FC} (h : rf_fact xt ρ es f) (hf : rf_facts xt ρ es fs) : rf_facts xt ρ es (f :: fs) := fun g hg => by
  rcases List.mem_cons.mp hg with rfl | hg
  · exact h
  · exact hf g hg
theorem rf_snd_fact {z : rf_ES} {f : rf_FC} (h : ∀ (xt : Nat → Nat) (ρ : List Int) (es : List va_E), rf_OKR xt ρ es z → rf_fact xt ρ es f) : rf_snd z [(z.1, f :: z.2)] := fun xt ρ es hz => ⟨_, List.mem_cons_self, [], by
  rw [List.append_nil]
  exact ⟨hz.1, rf_facts_cons (h xt ρ es hz) hz.2⟩⟩
theorem rf_snd_fact2 {z : rf_ES} {f f' : rf_FC} (h : ∀ (xt : Nat → Nat) (ρ : List Int) (es : List va_E), rf_OKR xt ρ es z → rf_fact xt ρ es f ∧ rf_fact xt ρ es f') : rf_snd z [(z.1, f :: f' :: z.2)] := fun xt ρ es hz => ⟨_, List.mem_cons_self, [], by
  rw [List.append_nil]
  exact ⟨hz.1, rf_facts_cons (h xt ρ es hz).1 (rf_facts_cons (h xt ρ es hz).2 hz.2)⟩⟩
/-- a number told to lie within lo .. hi -/
def rf_cav (E : rf_EV) (a : rf_AV) (lo hi : Int) : rf_EV := match rf_cut E a.2.1 (lo - a.2.2) (hi - a.2.2) false with
  | some E' => E'
  | none => E
theorem rf_cav_spec {ρ : List Int} {E : rf_EV} (hE : rf_okE ρ E) {a : rf_AV} {x lo hi : Int} (hx : rf_num ρ a x) (h1 : lo ≤ x) (h2 : x ≤ hi) : rf_okE ρ (rf_cav E a lo hi) := by
  obtain ⟨r, r1, r2⟩ := hx
  obtain ⟨E', e1, e2⟩ := rf_cut_spec hE (lo := lo - a.2.2) (hi := hi - a.2.2) (nz := false) r1 (by omega) (by omega) (fun z => by cases z)
  unfold rf_cav
  rw [e1]
  exact e2
theorem rf_num_ex {ρ : List Int} {E : rf_EV} (hE : rf_okE ρ E) {a : rf_AV} (h : (rf_gi E a.2.1).isSome = true) : ∃ x, rf_num ρ a x := by
  obtain ⟨q, hq⟩ := Option.isSome_iff_exists.mp h
  obtain ⟨r, r1, -⟩ := rf_gi_spec hE hq
  exact ⟨r + a.2.2, r, r1, rfl⟩
theorem rf_leq0 {ρ : List Int} {E : rf_EV} (hE : rf_okE ρ E) {a : rf_AV} {x c : Int} (hx : rf_num ρ a x) (h : rf_leq E (0, 0, c) a = true) : c ≤ x := rf_leq_spec hE (rf_num_c (c := c)) hx h
theorem rf_leq1 {ρ : List Int} {E : rf_EV} (hE : rf_okE ρ E) {a : rf_AV} {x c : Int} (hx : rf_num ρ a x) (h : rf_leq E a (0, 0, c) = true) : x ≤ c := rf_leq_spec hE hx (rf_num_c (c := c)) h
theorem rf_num_is {ρ : List Int} {c x : Int} (h : rf_num ρ (0, 0, c) x) : x = c := rf_num_eq h rf_num_c
def rf_p1 (a : rf_AV) (c : Int) : rf_AV := (0, a.2.1, a.2.2 + c)
theorem rf_p1_num {ρ : List Int} {a : rf_AV} {x : Int} (c : Int) (h : rf_num ρ a x) : rf_num ρ (rf_p1 a c) (x + c) := rf_num_add h
/-- 1, 2, 3: rows of changes while one of them is written -/
def rf_R1 (q1 q2 : Nat) (i : rf_AV) (z : rf_ES) : List rf_ES := if rf_has z.2 6 [q1, q2] [(0, 0, 40)] && (rf_gi z.1 i.2.1).isSome then [(z.1, (17, [q1, q2], [i]) :: z.2)] else [z]
theorem rf_R1_s {q1 q2 : Nat} {i : rf_AV} {z : rf_ES} : rf_snd z (rf_R1 q1 q2 i z) := by
  unfold rf_R1
  split
  next h =>
    simp only [Bool.and_eq_true] at h
    refine rf_snd_fact (fun xt ρ es hz => ?_)
    obtain ⟨nv, f, g, a1, a2, a3, a4⟩ := rf_x6 (rf_has_spec hz.2 h.1)
    cases rf_num_is a1
    obtain ⟨iv, hi⟩ := rf_num_ex hz.1 h.2
    exact rf_m17 hi a2 a3 (fun j hj _ => a4 j hj)
  next => exact rf_snd_self
def rf_box2 (E : rf_EV) (v w : rf_AV) : Bool := match rf_gi E v.2.1, rf_gi E w.2.1 with
  | some a, some b => rf_boxes.any (fun z => decide (z.1.1 ≤ a.1 + v.2.2) && (decide (a.2.1 + v.2.2 ≤ z.1.2) && (decide (z.2.1 ≤ b.1 + w.2.2) && decide (b.2.1 + w.2.2 ≤ z.2.2))))
  | _, _ => false
theorem rf_box2_spec {ρ : List Int} {E : rf_EV} (hE : rf_okE ρ E) {v w : rf_AV} {x y : Int} (hx : rf_num ρ v x) (hy : rf_num ρ w y) (h : rf_box2 E v w = true) : rf_may x y := by
  obtain ⟨r, r1, r2⟩ := hx
  obtain ⟨r', r1', r2'⟩ := hy
  unfold rf_box2 at h
  split at h
  next a b ha hb =>
    have i1 := rf_ivl hE ha r1
    have i2 := rf_ivl hE hb r1'
    exact rf_boxes_may h (by omega) (by omega) (by omega) (by omega)
  next => cases h
def rf_R2 (q1 q2 : Nat) (i v w : rf_AV) (z : rf_ES) : List rf_ES := if rf_has z.2 17 [q1, q2] [i] && (rf_has z.2 1 [q1] [i, v] && (rf_has z.2 1 [q2] [i, w] && rf_box2 z.1 v w)) then [(z.1, (6, [q1, q2], [(0, 0, 40)]) :: z.2)] else [z]
theorem rf_R2_s {q1 q2 : Nat} {i v w : rf_AV} {z : rf_ES} : rf_snd z (rf_R2 q1 q2 i v w z) := by
  unfold rf_R2
  split
  next h =>
    simp only [Bool.and_eq_true] at h
    obtain ⟨h1, h2, h3, h4⟩ := h
    refine rf_snd_fact (fun xt ρ es hz => ?_)
    obtain ⟨nv, f, g, a1, a2, a3, a4⟩ := rf_x17 (rf_has_spec hz.2 h1)
    obtain ⟨iv, vv, f', b1, b2, b3, b4, b5⟩ := rf_x1 (rf_has_spec hz.2 h2)
    obtain ⟨jv, wv, g', c1, c2, c3, c4, c5⟩ := rf_x1 (rf_has_spec hz.2 h3)
    cases rf_num_eq a1 b1
    cases rf_num_eq b1 c1
    cases rf_at_eq a2 b3
    cases rf_at_eq a3 c3
    refine rf_m6 rf_num_c a2 a3 (fun j hj => ?_)
    by_cases hji : (j : Int) = nv
    · have e : nv.toNat = j := by omega
      rw [e] at b5 c5
      rw [b5, c5]
      exact rf_box2_spec hz.1 b2 c2 h4
    · exact a4 j hj hji
  next => exact rf_snd_self
def rf_R3 (q1 q2 : Nat) (i v w i2 : rf_AV) (z : rf_ES) : List rf_ES := if rf_has z.2 17 [q1, q2] [i] && (rf_has z.2 1 [q1] [i, v] && (rf_has z.2 1 [q2] [i, w] && (rf_has z.2 1 [q1] [i2, v] && (rf_has z.2 1 [q2] [i2, w] && (rf_leq z.1 (rf_p1 i 1) i2 && rf_leq z.1 i2 (0, 0, 39)))))) then [(z.1, (6, [q1, q2], [(0, 0, 40)]) :: z.2)] else [z]
theorem rf_R3_s {q1 q2 : Nat} {i v w i2 : rf_AV} {z : rf_ES} : rf_snd z (rf_R3 q1 q2 i v w i2 z) := by
  unfold rf_R3
  split
  next h =>
    simp only [Bool.and_eq_true] at h
    obtain ⟨h1, h2, h3, h4, h5, h6, h7⟩ := h
    refine rf_snd_fact (fun xt ρ es hz => ?_)
    obtain ⟨nv, f, g, a1, a2, a3, a4⟩ := rf_x17 (rf_has_spec hz.2 h1)
    obtain ⟨iv, vv, f', b1, b2, b3, b4, b5⟩ := rf_x1 (rf_has_spec hz.2 h2)
    obtain ⟨jv, wv, g', c1, c2, c3, c4, c5⟩ := rf_x1 (rf_has_spec hz.2 h3)
    obtain ⟨iv2, vv2, f2, d1, d2, d3, d4, d5⟩ := rf_x1 (rf_has_spec hz.2 h4)
    obtain ⟨jv2, wv2, g2, e1, e2, e3, e4, e5⟩ := rf_x1 (rf_has_spec hz.2 h5)
    cases rf_num_eq a1 b1
    cases rf_num_eq b1 c1
    cases rf_num_eq d1 e1
    cases rf_num_eq b2 d2
    cases rf_num_eq c2 e2
    cases rf_at_eq a2 b3
    cases rf_at_eq a3 c3
    cases rf_at_eq a2 d3
    cases rf_at_eq a3 e3
    have k1 := rf_leq_spec hz.1 (rf_p1_num 1 b1) d1 h6
    have k2 := rf_leq1 hz.1 d1 h7
    refine rf_m6 rf_num_c a2 a3 (fun j hj => ?_)
    by_cases hji : (j : Int) = nv
    · have e : nv.toNat = j := by omega
      rw [e] at b5 c5
      rw [b5, c5, ← d5, ← e5]
      exact a4 _ (by omega) (by omega)
    · exact a4 j hj hji
  next => exact rf_snd_self
/-- 4: a sum's bound -/
def rf_R4 (x y u : rf_AV) (z : rf_ES) : List rf_ES := match rf_gi z.1 x.2.1, rf_gi z.1 y.2.1, rf_gi z.1 u.2.1 with
  | some a, some b, some c => if rf_has z.2 9 [] [x, y, u] then [(rf_cav (rf_cav z.1 x (a.1 + x.2.2) (c.2.1 + u.2.2 - (b.1 + y.2.2))) y (b.1 + y.2.2) (c.2.1 + u.2.2 - (a.1 + x.2.2)), z.2)] else [z]
  | _, _, _ => [z]
theorem rf_R4_s {x y u : rf_AV} {z : rf_ES} : rf_snd z (rf_R4 x y u z) := by
  unfold rf_R4
  split
  next a b c ha hb hc =>
    split
    next h =>
      intro xt ρ es hz
      obtain ⟨xv, yv, uv, a1, a2, a3, a4⟩ := rf_x9 (rf_has_spec hz.2 h)
      refine ⟨_, List.mem_cons_self, [], ?_⟩
      rw [List.append_nil]
      obtain ⟨r, r1, r2⟩ := a1
      obtain ⟨s, s1, s2⟩ := a2
      obtain ⟨t, t1, t2⟩ := a3
      have i1 := rf_ivl hz.1 ha r1
      have i2 := rf_ivl hz.1 hb s1
      have i3 := rf_ivl hz.1 hc t1
      exact ⟨rf_cav_spec (rf_cav_spec hz.1 ⟨r, r1, r2⟩ (by omega) (by omega)) ⟨s, s1, s2⟩ (by omega) (by omega), hz.2⟩
    next => exact rf_snd_self
  next => exact rf_snd_self
/-- 5: how many lines there may be -/
def rf_R5 (k1 k2 k3 k4 : Nat) (n s h : rf_AV) (z : rf_ES) : List rf_ES := if rf_has z.2 12 [k1, k2, k3, k4] [n, s] && (rf_has z.2 9 [] [s, n, h] && rf_leq z.1 h (0, 0, 120)) then [(rf_cav z.1 n 0 60, z.2)] else [z]
theorem rf_R5_s {k1 k2 k3 k4 : Nat} {n s h : rf_AV} {z : rf_ES} : rf_snd z (rf_R5 k1 k2 k3 k4 n s h z) := by
  unfold rf_R5
  split
  next h =>
    simp only [Bool.and_eq_true] at h
    obtain ⟨h1, h2, h3⟩ := h
    intro xt ρ es hz
    obtain ⟨nv, sv, f, g, t, u, a1, a2, -, -, -, -, a7, a8, a9⟩ := rf_x12 (rf_has_spec hz.2 h1)
    obtain ⟨xv, yv, uv, b1, b2, b3, b4⟩ := rf_x9 (rf_has_spec hz.2 h2)
    cases rf_num_eq a2 b1
    cases rf_num_eq a1 b2
    have c1 := rf_leq1 hz.1 b3 h3
    have c2 := rf_lin_len a9
    exact ⟨_, List.mem_cons_self, [], by
      rw [List.append_nil]
      exact ⟨rf_cav_spec hz.1 a1 (by omega) (by omega), hz.2⟩⟩
  next => exact rf_snd_self
/-- 6: a change's kind and number, by boxes -/
def rf_cav? (E : rf_EV) (a : rf_AV) (lo hi : Int) : Option rf_EV := rf_cut E a.2.1 (lo - a.2.2) (hi - a.2.2) false
theorem rf_cavo {ρ : List Int} {E : rf_EV} (hE : rf_okE ρ E) {a : rf_AV} {x lo hi : Int} (hx : rf_num ρ a x) (h1 : lo ≤ x) (h2 : x ≤ hi) : ∃ E', rf_cav? E a lo hi = some E' ∧ rf_okE ρ E' := by
  obtain ⟨r, r1, r2⟩ := hx
  exact rf_cut_spec hE (lo := lo - a.2.2) (hi := hi - a.2.2) (nz := false) r1 (by omega) (by omega) (fun z => by cases z)
def rf_R6 (q1 q2 : Nat) (i v w : rf_AV) (z : rf_ES) : List rf_ES := if rf_has z.2 6 [q1, q2] [(0, 0, 40)] && (rf_has z.2 1 [q1] [i, v] && (rf_has z.2 1 [q2] [i, w] && (rf_leq z.1 i (0, 0, 39) && (rf_leq z.1 (0, 0, -2147483648) w && rf_leq z.1 w (0, 0, 2147483647))))) then rf_boxes.filterMap (fun b => match rf_cav? z.1 v b.1.1 b.1.2 with
    | some E1 => (match rf_cav? E1 w b.2.1 b.2.2 with
      | some E2 => some (E2, z.2)
      | none => none)
    | none => none) else [z]
theorem rf_R6_s {q1 q2 : Nat} {i v w : rf_AV} {z : rf_ES} : rf_snd z (rf_R6 q1 q2 i v w z) := by
  unfold rf_R6
  split
  next h =>
    simp only [Bool.and_eq_true] at h
    obtain ⟨h1, h2, h3, h4, h5, h6⟩ := h
    intro xt ρ es hz
    obtain ⟨nv, f, g, a1, a2, a3, a4⟩ := rf_x6 (rf_has_spec hz.2 h1)
    obtain ⟨iv, vv, f', b1, b2, b3, b4, b5⟩ := rf_x1 (rf_has_spec hz.2 h2)
    obtain ⟨jv, wv, g', c1, c2, c3, c4, c5⟩ := rf_x1 (rf_has_spec hz.2 h3)
    cases rf_num_is a1
    cases rf_num_eq b1 c1
    cases rf_at_eq a2 b3
    cases rf_at_eq a3 c3
    have k2 := rf_leq1 hz.1 b1 h4
    have hm := a4 iv.toNat (by omega)
    rw [b5, c5] at hm
    obtain ⟨b, m1, m2, m3, m4, m5⟩ := rf_boxes_spec hm (rf_leq0 hz.1 c2 h5) (rf_leq1 hz.1 c2 h6)
    obtain ⟨E1, e1, e2⟩ := rf_cavo hz.1 b2 m2 m3
    obtain ⟨E2, e3, e4⟩ := rf_cavo e2 c2 m4 m5
    refine ⟨(E2, z.2), List.mem_filterMap.mpr ⟨b, m1, ?_⟩, [], ?_⟩
    · rw [e1]
      dsimp only
      rw [e3]
    · rw [List.append_nil]
      exact ⟨e4, hz.2⟩
  next => exact rf_snd_self
/-- 7, 8, 9, 10: lines of a text as they are read -/
def rf_R7 (k1 k2 k3 k4 : Nat) (n s : rf_AV) (z : rf_ES) : List rf_ES := if rf_has z.2 12 [k1, k2, k3, k4] [n, s] then [(z.1, (18, [k1, k2, k3, k4], [n, s, s, s, n]) :: z.2)] else [z]
theorem rf_R7_s {k1 k2 k3 k4 : Nat} {n s : rf_AV} {z : rf_ES} : rf_snd z (rf_R7 k1 k2 k3 k4 n s z) := by
  unfold rf_R7
  split
  next h =>
    refine rf_snd_fact (fun xt ρ es hz => ?_)
    obtain ⟨nv, sv, f, g, t, u, a1, a2, a3, a4, a5, a6, a7, a8, a9⟩ := rf_x12 (rf_has_spec hz.2 h)
    refine rf_m18 a1 a2 a2 a2 a1 a3 a4 a5 a6 ⟨a7, a8, Int.le_refl _, Int.le_refl _, Int.le_refl _, a9, Or.inl rfl, ?_⟩
    rw [Nat.sub_self, Int.sub_self]
    rfl
  next => exact rf_snd_self
def rf_R8 (k1 k2 k3 k4 : Nat) (n s t : rf_AV) (z : rf_ES) : List rf_ES := if rf_has z.2 18 [k1, k2, k3, k4] [n, s, s, t, rf_p1 n 1] then [(z.1, (18, [k1, k2, k3, k4], [n, s, t, t, n]) :: z.2)] else [z]
theorem rf_R8_s {k1 k2 k3 k4 : Nat} {n s t : rf_AV} {z : rf_ES} : rf_snd z (rf_R8 k1 k2 k3 k4 n s t z) := by
  unfold rf_R8
  split
  next h =>
    refine rf_snd_fact (fun xt ρ es hz => ?_)
    obtain ⟨nv, sv, mv, tv, dv, f, g, tt, u, a1, a2, a3, a4, a5, b1, b2, b3, b4, c1, c2, c3, c4, c5, c6, c7, c8⟩ := rf_x18 (rf_has_spec hz.2 h)
    cases rf_num_eq a2 a3
    cases rf_num_eq a5 (rf_p1_num 1 a1)
    refine rf_m18 a1 a2 a4 a4 a1 b1 b2 b3 b4 ⟨c1, c2, c4, Int.le_refl _, Int.le_refl _, c6, Or.inr ?_, ?_⟩
    · rw [c8]
      congr 1
      omega
    · rw [Nat.sub_self, Int.sub_self]
      rfl
  next => exact rf_snd_self
def rf_R9 (k1 k2 k3 k4 : Nat) (n s m t : rf_AV) (z : rf_ES) : List rf_ES := if rf_has z.2 18 [k1, k2, k3, k4] [n, s, m, t, rf_p1 n 1] && (rf_has z.2 1 [k3] [rf_p1 n 61, m] && (rf_has z.2 1 [k4] [rf_p1 n 61, t] && rf_leq z.1 t (0, 0, 130))) then [(z.1, (12, [k1, k2, k3, k4], [rf_p1 n 1, t]) :: z.2)] else [z]
theorem rf_R9_s {k1 k2 k3 k4 : Nat} {n s m t : rf_AV} {z : rf_ES} : rf_snd z (rf_R9 k1 k2 k3 k4 n s m t z) := by
  unfold rf_R9
  split
  next h =>
    simp only [Bool.and_eq_true] at h
    obtain ⟨h1, h2, h3, h4⟩ := h
    refine rf_snd_fact (fun xt ρ es hz => ?_)
    obtain ⟨nv, sv, mv, tv, dv, f, g, tt, u, a1, a2, a3, a4, a5, b1, b2, b3, b4, c1, c2, c3, c4, c5, c6, c7, c8⟩ := rf_x18 (rf_has_spec hz.2 h1)
    obtain ⟨iv, vv, f', d1, d2, d3, d4, d5⟩ := rf_x1 (rf_has_spec hz.2 h2)
    obtain ⟨jv, wv, g', e1, e2, e3, e4, e5⟩ := rf_x1 (rf_has_spec hz.2 h3)
    cases rf_num_eq a5 (rf_p1_num 1 a1)
    cases rf_num_eq d1 (rf_p1_num 61 a1)
    cases rf_num_eq e1 (rf_p1_num 61 a1)
    cases rf_num_eq d2 a3
    cases rf_num_eq e2 a4
    cases rf_at_eq b3 d3
    cases rf_at_eq b4 e3
    have k1 := rf_leq1 hz.1 a4 h4
    have x1 : (nv + 61).toNat = 61 + nv.toNat := by omega
    have x2 : (nv + 1).toNat = nv.toNat + 1 := by omega
    rw [x1] at d5 e5
    have c8' : rf_dep f g (130 + mv.toNat) (tv.toNat - mv.toNat) = some 1 := by
      rw [c8]
      congr 1
      omega
    refine rf_m12 (rf_p1_num 1 a1) a4 b1 b2 b3 b4 ⟨by omega, by omega, ?_⟩
    rw [x2]
    simp only [rf_lin, c6]
    have hc : mv = ((sv.toNat : Nat) : Int) ∨ rf_dep f g (130 + sv.toNat) (mv.toNat - sv.toNat) = some 1 := by
      rcases c7 with c7 | c7
      · exact Or.inl (by omega)
      · exact Or.inr c7
    rw [d5, e5, if_pos ⟨by omega, c4, k1, hc, c8'⟩]
  next => exact rf_snd_self
def rf_R10 (k1 k2 k3 k4 : Nat) (n s : rf_AV) (z : rf_ES) : List rf_ES := if rf_has z.2 14 [k1, k2, k3, k4] [n, s] then [(z.1, (12, [k1, k2, k3, k4], [(0, 0, 0), (0, 0, 0)]) :: z.2)] else [z]
theorem rf_R10_s {k1 k2 k3 k4 : Nat} {n s : rf_AV} {z : rf_ES} : rf_snd z (rf_R10 k1 k2 k3 k4 n s z) := by
  unfold rf_R10
  split
  next h =>
    refine rf_snd_fact (fun xt ρ es hz => ?_)
    obtain ⟨nv, sv, f, g, t, u, a1, a2, a3, a4, a5, a6, a7, a8, a9⟩ := rf_x14 (rf_has_spec hz.2 h)
    exact rf_m12 rf_num_c rf_num_c a3 a4 a5 a6 ⟨Int.le_refl _, Int.le_refl _, rfl⟩
  next => exact rf_snd_self
/-- 11: no step yet -/
def rf_R11 (q1 q2 : Nat) (a b d : rf_AV) (z : rf_ES) : List rf_ES := if rf_has z.2 16 [q1, q2] [a, b, d] then [(z.1, (7, [q1, q2], [a, a, (0, 0, 0)]) :: z.2)] else [z]
theorem rf_R11_s {q1 q2 : Nat} {a b d : rf_AV} {z : rf_ES} : rf_snd z (rf_R11 q1 q2 a b d z) := by
  unfold rf_R11
  split
  next h =>
    refine rf_snd_fact (fun xt ρ es hz => ?_)
    obtain ⟨av, bv, dv, f, g, a1, a2, a3, a4, a5, a6, a7, a8, a9⟩ := rf_x16 (rf_has_spec hz.2 h)
    refine rf_m7 a1 a1 rf_num_c a4 a5 ⟨a6, Int.le_refl _, Int.le_refl _, ?_⟩
    rw [Int.sub_self]
    rfl
  next => exact rf_snd_self
