/-! RULES, further ones -/
/-- 12: a step is laid -/
def rf_R12 (k1 k2 k3 k4 : Nat) (n s m t d v w : rf_AV) (z : rf_ES) : List rf_ES := if rf_has z.2 18 [k1, k2, k3, k4] [n, s, m, t, d] && (rf_has z.2 1 [k1] [rf_p1 t 130, v] && rf_has z.2 1 [k2] [rf_p1 t 130, w]) then
    (if rf_leq z.1 (0, 0, 1) v && rf_leq z.1 v (0, 0, 1) then [(z.1, (18, [k1, k2, k3, k4], [n, s, m, rf_p1 t 1, rf_p1 d 1]) :: z.2)]
    else if rf_leq z.1 (0, 0, 2) v && (rf_leq z.1 v (0, 0, 2) && (rf_leq z.1 (0, 0, 0) w && rf_leq z.1 w (0, 0, 5))) then [(z.1, (18, [k1, k2, k3, k4], [n, s, m, rf_p1 t 1, rf_p1 d 1]) :: z.2)]
    else if rf_leq z.1 (0, 0, 3) v && (rf_leq z.1 v (0, 0, 4) && rf_leq z.1 (rf_p1 n 1) d) then [(z.1, (18, [k1, k2, k3, k4], [n, s, m, rf_p1 t 1, d]) :: z.2)]
    else if rf_leq z.1 (0, 0, 5) v && rf_leq z.1 (rf_p1 n 2) d then [(z.1, (18, [k1, k2, k3, k4], [n, s, m, rf_p1 t 1, rf_p1 d (-1)]) :: z.2)]
    else [z]) else [z]
theorem rf_R12_s {k1 k2 k3 k4 : Nat} {n s m t d v w : rf_AV} {z : rf_ES} : rf_snd z (rf_R12 k1 k2 k3 k4 n s m t d v w z) := by
  unfold rf_R12
  split
  next h =>
    simp only [Bool.and_eq_true] at h
    obtain ⟨h1, h2, h3⟩ := h
    have key : ∀ (xt : Nat → Nat) (ρ : List Int) (es : List va_E), rf_OKR xt ρ es z → ∀ (c : Int) (d' : rf_AV), (∀ dv, rf_num ρ d dv → rf_num ρ d' (dv + c)) → (∀ vv wv nv dv : Int, rf_num ρ v vv → rf_num ρ w wv → rf_num ρ n nv → rf_num ρ d dv → (vv = 1 ∧ c = 1) ∨ (vv = 2 ∧ 0 ≤ wv ∧ wv ≤ 5 ∧ c = 1) ∨ ((vv = 3 ∨ vv = 4) ∧ nv + 1 ≤ dv ∧ c = 0) ∨ (5 ≤ vv ∧ nv + 2 ≤ dv ∧ c = -1)) → rf_fact xt ρ es (18, [k1, k2, k3, k4], [n, s, m, rf_p1 t 1, d']) := by
      intro xt ρ es hz c d' hd' hcase
      obtain ⟨nv, sv, mv, tv, dv, f, g, tt, u, a1, a2, a3, a4, a5, b1, b2, b3, b4, c1, c2, c3, c4, c5, c6, c7, c8⟩ := rf_x18 (rf_has_spec hz.2 h1)
      obtain ⟨iv, vv, f', d1, d2, d3, d4, d5⟩ := rf_x1 (rf_has_spec hz.2 h2)
      obtain ⟨jv, wv, g', e1, e2, e3, e4, e5⟩ := rf_x1 (rf_has_spec hz.2 h3)
      cases rf_num_eq d1 (rf_p1_num 130 a4)
      cases rf_num_eq e1 (rf_p1_num 130 a4)
      cases rf_at_eq b1 d3
      cases rf_at_eq b2 e3
      have hc := hcase vv wv nv dv d2 e2 a1 a5
      have x1 : (tv + 130).toNat = 130 + mv.toNat + (tv.toNat - mv.toNat) := by omega
      have x2 : (tv + 1).toNat - mv.toNat = (tv.toNat - mv.toNat) + 1 := by omega
      rw [x1] at d5 e5
      refine rf_m18 a1 a2 a3 (rf_p1_num 1 a4) (hd' dv a5) b1 b2 b3 b4 ⟨c1, c2, c3, by omega, by omega, c6, c7, ?_⟩
      rw [x2]
      simp only [rf_dep, c8]
      rw [d5, e5]
      rcases hc with ⟨q1, q2⟩ | ⟨q1, q2, q3, q4⟩ | ⟨q1, q2, q3⟩ | ⟨q1, q2, q3⟩
      · rw [if_pos q1]
        congr 1
        omega
      · rw [if_neg (by omega), if_pos q1, if_pos ⟨q2, q3⟩]
        congr 1
        omega
      · rw [if_neg (by omega), if_neg (by omega), if_pos q1, if_pos (by omega)]
        congr 1
        omega
      · rw [if_neg (by omega), if_neg (by omega), if_neg (by omega), if_pos (by omega)]
        congr 1
        omega
    split
    next g1 =>
      simp only [Bool.and_eq_true] at g1
      exact rf_snd_fact (fun xt ρ es hz => key xt ρ es hz 1 _ (fun dv hd => rf_p1_num 1 hd) (fun vv wv nv dv q1 q2 q3 q4 => Or.inl ⟨by have := rf_leq0 hz.1 q1 g1.1; have := rf_leq1 hz.1 q1 g1.2; omega, rfl⟩))
    next =>
      split
      next g1 =>
        simp only [Bool.and_eq_true] at g1
        exact rf_snd_fact (fun xt ρ es hz => key xt ρ es hz 1 _ (fun dv hd => rf_p1_num 1 hd) (fun vv wv nv dv q1 q2 q3 q4 => Or.inr (Or.inl ⟨by have := rf_leq0 hz.1 q1 g1.1; have := rf_leq1 hz.1 q1 g1.2.1; omega, rf_leq0 hz.1 q2 g1.2.2.1, rf_leq1 hz.1 q2 g1.2.2.2, rfl⟩)))
      next =>
        split
        next g1 =>
          simp only [Bool.and_eq_true] at g1
          exact rf_snd_fact (fun xt ρ es hz => key xt ρ es hz 0 _ (fun dv hd => by rw [Int.add_zero]; exact hd) (fun vv wv nv dv q1 q2 q3 q4 => Or.inr (Or.inr (Or.inl ⟨by have := rf_leq0 hz.1 q1 g1.1; have := rf_leq1 hz.1 q1 g1.2.1; omega, rf_leq_spec hz.1 (rf_p1_num 1 q3) q4 g1.2.2, rfl⟩))))
        next =>
          split
          next g1 =>
            simp only [Bool.and_eq_true] at g1
            exact rf_snd_fact (fun xt ρ es hz => key xt ρ es hz (-1) _ (fun dv hd => rf_p1_num (-1) hd) (fun vv wv nv dv q1 q2 q3 q4 => Or.inr (Or.inr (Or.inr ⟨rf_leq0 hz.1 q1 g1.1, rf_leq_spec hz.1 (rf_p1_num 2 q3) q4 g1.2, rfl⟩))))
          next => exact rf_snd_self
  next => exact rf_snd_self
/-- 13, 14, 15: a text is copied -/
def rf_R13 (k1 k2 k3 k4 : Nat) (n s : rf_AV) (z : rf_ES) : List rf_ES := if rf_has z.2 12 [k1, k2, k3, k4] [n, s] then [(z.1, (13, [k1, k2], [(0, 0, 0), (0, 0, 130)]) :: (13, [k3, k4], [(0, 0, 0), (0, 0, 61)]) :: z.2)] else [z]
theorem rf_R13_s {k1 k2 k3 k4 : Nat} {n s : rf_AV} {z : rf_ES} : rf_snd z (rf_R13 k1 k2 k3 k4 n s z) := by
  unfold rf_R13
  split
  next h =>
    refine rf_snd_fact2 (fun xt ρ es hz => ?_)
    obtain ⟨nv, sv, f, g, t, u, a1, a2, a3, a4, a5, a6, a7, a8, a9⟩ := rf_x12 (rf_has_spec hz.2 h)
    exact ⟨rf_m13 rf_num_c rf_num_c a3 a4 (by omega) (fun j hj => by omega), rf_m13 rf_num_c rf_num_c a5 a6 (by omega) (fun j hj => by omega)⟩
  next => exact rf_snd_self
def rf_R14 (q1 q2 : Nat) (k : rf_AV) (o : Int) (v w : rf_AV) (z : rf_ES) : List rf_ES := if rf_has z.2 13 [q1, q2] [k, (0, 0, o)] && (rf_has z.2 1 [q1] [k, v] && (rf_has z.2 1 [q1] [rf_p1 k o, v] && (rf_has z.2 1 [q2] [k, w] && rf_has z.2 1 [q2] [rf_p1 k o, w]))) then [(z.1, (13, [q1, q2], [rf_p1 k 1, (0, 0, o)]) :: z.2)] else [z]
theorem rf_R14_s {q1 q2 : Nat} {k : rf_AV} {o : Int} {v w : rf_AV} {z : rf_ES} : rf_snd z (rf_R14 q1 q2 k o v w z) := by
  unfold rf_R14
  split
  next h =>
    simp only [Bool.and_eq_true] at h
    obtain ⟨h1, h2, h3, h4, h5⟩ := h
    refine rf_snd_fact (fun xt ρ es hz => ?_)
    obtain ⟨kv, ov, f, g, a1, a2, a3, a4, a5, a6⟩ := rf_x13 (rf_has_spec hz.2 h1)
    cases rf_num_is a2
    obtain ⟨iv, vv, f', b1, b2, b3, b4, b5⟩ := rf_x1 (rf_has_spec hz.2 h2)
    obtain ⟨iv2, vv2, f2, c1, c2, c3, c4, c5⟩ := rf_x1 (rf_has_spec hz.2 h3)
    obtain ⟨jv, wv, g', d1, d2, d3, d4, d5⟩ := rf_x1 (rf_has_spec hz.2 h4)
    obtain ⟨jv2, wv2, g2, e1, e2, e3, e4, e5⟩ := rf_x1 (rf_has_spec hz.2 h5)
    cases rf_num_eq a1 b1
    cases rf_num_eq a1 d1
    cases rf_num_eq c1 (rf_p1_num o a1)
    cases rf_num_eq e1 (rf_p1_num o a1)
    cases rf_num_eq b2 c2
    cases rf_num_eq d2 e2
    cases rf_at_eq a3 b3
    cases rf_at_eq a3 c3
    cases rf_at_eq a4 d3
    cases rf_at_eq a4 e3
    refine rf_m13 (rf_p1_num 1 a1) rf_num_c a3 a4 a5 (fun j hj => ?_)
    by_cases hjk : (j : Int) < kv
    · exact a6 j hjk
    · have e : kv.toNat = j := by omega
      have e' : (kv + o).toNat = o.toNat + j := by omega
      rw [e] at b5 d5
      rw [e'] at c5 e5
      exact ⟨Int32.toInt_inj.mp (by rw [b5, c5]), Int32.toInt_inj.mp (by rw [d5, e5])⟩
  next => exact rf_snd_self
def rf_R15 (k1 k2 k3 k4 : Nat) (n s : rf_AV) (z : rf_ES) : List rf_ES := if rf_has z.2 12 [k1, k2, k3, k4] [n, s] && (rf_has z.2 13 [k1, k2] [s, (0, 0, 130)] && rf_has z.2 13 [k3, k4] [n, (0, 0, 61)]) then [(z.1, (14, [k1, k2, k3, k4], [n, s]) :: z.2)] else [z]
theorem rf_R15_s {k1 k2 k3 k4 : Nat} {n s : rf_AV} {z : rf_ES} : rf_snd z (rf_R15 k1 k2 k3 k4 n s z) := by
  unfold rf_R15
  split
  next h =>
    simp only [Bool.and_eq_true] at h
    obtain ⟨h1, h2, h3⟩ := h
    refine rf_snd_fact (fun xt ρ es hz => ?_)
    obtain ⟨nv, sv, f, g, t, u, a1, a2, a3, a4, a5, a6, a7, a8, a9⟩ := rf_x12 (rf_has_spec hz.2 h1)
    obtain ⟨kv, ov, f', g', b1, b2, b3, b4, b5, b6⟩ := rf_x13 (rf_has_spec hz.2 h2)
    obtain ⟨kv2, ov2, t', u', c1, c2, c3, c4, c5, c6⟩ := rf_x13 (rf_has_spec hz.2 h3)
    cases rf_num_is b2
    cases rf_num_is c2
    cases rf_num_eq a2 b1
    cases rf_num_eq a1 c1
    cases rf_at_eq a3 b3
    cases rf_at_eq a4 b4
    cases rf_at_eq a5 c3
    cases rf_at_eq a6 c4
    exact rf_m14 a1 a2 a3 a4 a5 a6 ⟨a7, a8, rf_lin_copy a9 (fun j hj => b6 j (by omega)) (fun j hj => c6 j (by omega))⟩
  next => exact rf_snd_self
/-- 24: fewer places copied -/
def rf_R24 (q1 q2 : Nat) (k o s : rf_AV) (z : rf_ES) : List rf_ES := if rf_has z.2 13 [q1, q2] [k, o] && (rf_leq z.1 s k && (rf_gi z.1 s.2.1).isSome) then [(z.1, (13, [q1, q2], [s, o]) :: z.2)] else [z]
theorem rf_R24_s {q1 q2 : Nat} {k o s : rf_AV} {z : rf_ES} : rf_snd z (rf_R24 q1 q2 k o s z) := by
  unfold rf_R24
  split
  next h =>
    simp only [Bool.and_eq_true] at h
    obtain ⟨h1, h2, h3⟩ := h
    refine rf_snd_fact (fun xt ρ es hz => ?_)
    obtain ⟨kv, ov, f, g, a1, a2, a3, a4, a5, a6⟩ := rf_x13 (rf_has_spec hz.2 h1)
    obtain ⟨sv, b1⟩ := rf_num_ex hz.1 h3
    have k1 := rf_leq_spec hz.1 b1 a1 h2
    exact rf_m13 b1 a2 a3 a4 a5 (fun j hj => a6 j (by omega))
  next => exact rf_snd_self
/-- 16 to 19: a text's lines are gone through -/
def rf_R16 (k1 k2 k3 k4 : Nat) (n s : rf_AV) (z : rf_ES) : List rf_ES := if rf_has z.2 14 [k1, k2, k3, k4] [n, s] then [(z.1, (15, [k1, k2, k3, k4], [(0, 0, 0), (0, 0, 0)]) :: z.2)] else [z]
theorem rf_R16_s {k1 k2 k3 k4 : Nat} {n s : rf_AV} {z : rf_ES} : rf_snd z (rf_R16 k1 k2 k3 k4 n s z) := by
  unfold rf_R16
  split
  next h =>
    refine rf_snd_fact (fun xt ρ es hz => ?_)
    obtain ⟨nv, sv, f, g, t, u, a1, a2, a3, a4, a5, a6, a7, a8, a9⟩ := rf_x14 (rf_has_spec hz.2 h)
    exact rf_m15 rf_num_c rf_num_c a3 a4 a5 a6 ⟨Int.le_refl _, Int.le_refl _, rfl⟩
  next => exact rf_snd_self
/-- what a text and its first lines give of the next one -/
theorem rf_R17_0 {xt : Nat → Nat} {ρ : List Int} {es : List va_E} {z : rf_ES} (hz : rf_OKR xt ρ es z) {k1 k2 k3 k4 : Nat} {n s l r : rf_AV} (h1 : rf_has z.2 14 [k1, k2, k3, k4] [n, s] = true) (h2 : rf_has z.2 15 [k1, k2, k3, k4] [l, r] = true) (h3 : rf_leq z.1 (rf_p1 l 1) n = true) : ∃ (lv rv : Int) (f g t u : Nat → Int32), rf_num ρ l lv ∧ rf_num ρ r rv ∧ rf_at es k1 f ∧ rf_at es k2 g ∧ rf_at es k3 t ∧ rf_at es k4 u ∧ 0 ≤ lv ∧ 0 ≤ rv ∧ (rv ≤ (t lv.toNat).toInt ∧ (t lv.toNat).toInt ≤ (u lv.toNat).toInt ∧ (u lv.toNat).toInt ≤ 130) ∧ ((t lv.toNat).toInt = rv ∨ rf_dep f g rv.toNat ((t lv.toNat).toInt.toNat - rv.toNat) = some 1) ∧ rf_dep f g (t lv.toNat).toInt.toNat ((u lv.toNat).toInt.toNat - (t lv.toNat).toInt.toNat) = some 1 ∧ rf_lin f g t u 0 0 (lv.toNat + 1) = some (u lv.toNat).toInt.toNat := by
  obtain ⟨nv, sv, f, g, t, u, a1, a2, a3, a4, a5, a6, a7, a8, a9⟩ := rf_x14 (rf_has_spec hz.2 h1)
  obtain ⟨lv, rv, f', g', t', u', b1, b2, b3, b4, b5, b6, b7, b8, b9⟩ := rf_x15 (rf_has_spec hz.2 h2)
  cases rf_at_eq a3 b3
  cases rf_at_eq a4 b4
  cases rf_at_eq a5 b5
  cases rf_at_eq a6 b6
  have k := rf_leq_spec hz.1 (rf_p1_num 1 b1) a1 h3
  obtain ⟨⟨c1, c2, c3⟩, c4, c5, c6⟩ := rf_lin_at a9 (l := lv.toNat) (by omega) b9
  simp only [Nat.zero_add] at c1 c2 c3 c4 c5 c6
  refine ⟨lv, rv, f, g, t, u, b1, b2, a3, a4, a5, a6, b7, b8, ⟨by omega, c2, c3⟩, ?_, c5, c6⟩
  rcases c4 with c4 | c4
  · exact Or.inl (by omega)
  · exact Or.inr c4
def rf_R17 (k1 k2 k3 k4 : Nat) (n s l r t : rf_AV) (z : rf_ES) : List rf_ES := if rf_has z.2 14 [k1, k2, k3, k4] [n, s] && (rf_has z.2 15 [k1, k2, k3, k4] [l, r] && (rf_leq z.1 (rf_p1 l 1) n && rf_has z.2 1 [k3] [l, t])) then [(rf_new (rf_cav z.1 t 0 130) (0, 1, false), (16, [k1, k2], [r, t, (0, (rf_cav z.1 t 0 130).1.length + 1, 0)]) :: z.2)] else [z]
theorem rf_R17_s {k1 k2 k3 k4 : Nat} {n s l r t : rf_AV} {z : rf_ES} : rf_snd z (rf_R17 k1 k2 k3 k4 n s l r t z) := by
  unfold rf_R17
  split
  next h =>
    simp only [Bool.and_eq_true] at h
    obtain ⟨h1, h2, h3, h4⟩ := h
    intro xt ρ es hz
    obtain ⟨lv, rv, f, g, tt, u, a1, a2, a3, a4, a5, a6, a7, a8, ⟨c1, c2, c3⟩, c4, c5, c6⟩ := rf_R17_0 hz h1 h2 h3
    obtain ⟨iv, vv, f', d1, d2, d3, d4, d5⟩ := rf_x1 (rf_has_spec hz.2 h4)
    cases rf_num_eq a1 d1
    cases rf_at_eq a5 d3
    rw [d5] at c1 c2 c4 c5
    have hE := rf_cav_spec hz.1 d2 (lo := 0) (hi := 130) (by omega) (by omega)
    obtain ⟨dd, e1, e2, e3⟩ : ∃ dd : Int, 0 ≤ dd ∧ dd ≤ 1 ∧ rf_dep f g rv.toNat (vv - rv).toNat = some dd.toNat := by
      rcases c4 with c4 | c4
      · exact ⟨0, by omega, by omega, by rw [c4, Int.sub_self]; rfl⟩
      · exact ⟨1, by omega, by omega, by rw [show (vv - rv).toNat = vv.toNat - rv.toNat by omega]; exact c4⟩
    obtain ⟨k1', k2'⟩ := rf_okE_new hE (q := (0, 1, false)) (x := dd) e1 e2 (fun z => by cases z)
    exact ⟨_, List.mem_cons_self, [dd], k1', rf_facts_cons (rf_m16 (rf_num_app a2) (rf_num_app d2) ⟨dd, k2', by dsimp only; omega⟩ a3 a4 ⟨a8, c1, e1, e3⟩) (rf_facts_app hz.2)⟩
  next => exact rf_snd_self
def rf_R18 (k1 k2 k3 k4 : Nat) (n s l r t u : rf_AV) (z : rf_ES) : List rf_ES := if rf_has z.2 14 [k1, k2, k3, k4] [n, s] && (rf_has z.2 15 [k1, k2, k3, k4] [l, r] && (rf_leq z.1 (rf_p1 l 1) n && (rf_has z.2 1 [k3] [l, t] && rf_has z.2 1 [k4] [l, u]))) then [(rf_cav (rf_cav z.1 t 0 130) u 0 130, (16, [k1, k2], [t, u, (0, 0, 1)]) :: z.2)] else [z]
theorem rf_R18_s {k1 k2 k3 k4 : Nat} {n s l r t u : rf_AV} {z : rf_ES} : rf_snd z (rf_R18 k1 k2 k3 k4 n s l r t u z) := by
  unfold rf_R18
  split
  next h =>
    simp only [Bool.and_eq_true] at h
    obtain ⟨h1, h2, h3, h4, h5⟩ := h
    intro xt ρ es hz
    obtain ⟨lv, rv, f, g, tt, uu, a1, a2, a3, a4, a5, a6, a7, a8, ⟨c1, c2, c3⟩, c4, c5, c6⟩ := rf_R17_0 hz h1 h2 h3
    obtain ⟨iv, vv, f', d1, d2, d3, d4, d5⟩ := rf_x1 (rf_has_spec hz.2 h4)
    obtain ⟨jv, wv, g', e1, e2, e3, e4, e5⟩ := rf_x1 (rf_has_spec hz.2 h5)
    cases rf_num_eq a1 d1
    cases rf_num_eq a1 e1
    cases rf_at_eq a5 d3
    cases rf_at_eq a6 e3
    rw [d5] at c1 c2 c4 c5
    rw [e5] at c2 c3 c5 c6
    have hE := rf_cav_spec hz.1 d2 (lo := 0) (hi := 130) (by omega) (by omega)
    have hE2 := rf_cav_spec hE e2 (lo := 0) (hi := 130) (by omega) (by omega)
    exact ⟨_, List.mem_cons_self, [], by
      rw [List.append_nil]
      exact ⟨hE2, rf_facts_cons (rf_m16 d2 e2 rf_num_c a3 a4 ⟨by omega, c2, by omega, by rw [show (wv - vv).toNat = wv.toNat - vv.toNat by omega]; exact c5⟩) hz.2⟩⟩
  next => exact rf_snd_self
def rf_R19 (k1 k2 k3 k4 : Nat) (n s l r u : rf_AV) (z : rf_ES) : List rf_ES := if rf_has z.2 14 [k1, k2, k3, k4] [n, s] && (rf_has z.2 15 [k1, k2, k3, k4] [l, r] && (rf_leq z.1 (rf_p1 l 1) n && rf_has z.2 1 [k4] [l, u])) then [(rf_cav z.1 u 0 130, (15, [k1, k2, k3, k4], [rf_p1 l 1, u]) :: z.2)] else [z]
theorem rf_R19_s {k1 k2 k3 k4 : Nat} {n s l r u : rf_AV} {z : rf_ES} : rf_snd z (rf_R19 k1 k2 k3 k4 n s l r u z) := by
  unfold rf_R19
  split
  next h =>
    simp only [Bool.and_eq_true] at h
    obtain ⟨h1, h2, h3, h5⟩ := h
    intro xt ρ es hz
    obtain ⟨lv, rv, f, g, tt, uu, a1, a2, a3, a4, a5, a6, a7, a8, ⟨c1, c2, c3⟩, c4, c5, c6⟩ := rf_R17_0 hz h1 h2 h3
    obtain ⟨jv, wv, g', e1, e2, e3, e4, e5⟩ := rf_x1 (rf_has_spec hz.2 h5)
    cases rf_num_eq a1 e1
    cases rf_at_eq a6 e3
    rw [e5] at c2 c3 c5 c6
    have hE2 := rf_cav_spec hz.1 e2 (lo := 0) (hi := 130) (by omega) (by omega)
    exact ⟨_, List.mem_cons_self, [], by
      rw [List.append_nil]
      exact ⟨hE2, rf_facts_cons (rf_m15 (rf_p1_num 1 a1) e2 a3 a4 a5 a6 ⟨by omega, by omega, by rw [show (lv + 1).toNat = lv.toNat + 1 by omega]; exact c6⟩) hz.2⟩⟩
  next => exact rf_snd_self
/-- 20, 21: a step is worked -/
def rf_R20 (q1 q2 : Nat) (a b d k n v : rf_AV) (z : rf_ES) : List rf_ES := if rf_has z.2 16 [q1, q2] [a, b, d] && (rf_has z.2 7 [q1, q2] [a, k, n] && (rf_has z.2 1 [q1] [k, v] && (rf_leq z.1 (rf_p1 k 1) b && (rf_leq z.1 (0, 0, 0) a && (rf_leq z.1 b (0, 0, 130) && (rf_leq z.1 (0, 0, -128) v && rf_leq z.1 v (0, 0, 127))))))) then
    [((1 : Int), (1 : Int), (0 : Int), (1 : Int)), (2, 2, 0, 1), (3, 4, 1, 0), (-128, 0, 2, -1), (5, 127, 2, -1)].filterMap (fun c => match rf_cav? z.1 v c.1 c.2.1 with
      | some E1 => (match rf_cav? E1 n c.2.2.1 129 with
        | some E2 => some (E2, (7, [q1, q2], [a, rf_p1 k 1, rf_p1 n c.2.2.2]) :: z.2)
        | none => none)
      | none => none) else [z]
theorem rf_R20_s {q1 q2 : Nat} {a b d k n v : rf_AV} {z : rf_ES} : rf_snd z (rf_R20 q1 q2 a b d k n v z) := by
  unfold rf_R20
  split
  next h =>
    simp only [Bool.and_eq_true] at h
    obtain ⟨h1, h2, h3, h4, h5, h6, h7, h8⟩ := h
    intro xt ρ es hz
    obtain ⟨av, bv, dv, f, g, a1, a2, a3, a4, a5, a6, a7, a8, a9⟩ := rf_x16 (rf_has_spec hz.2 h1)
    obtain ⟨av', kv, nv, f', g', b1, b2, b3, b4, b5, b6, b7, b8, b9⟩ := rf_x7 (rf_has_spec hz.2 h2)
    obtain ⟨iv, vv, f2, d1, d2, d3, d4, d5⟩ := rf_x1 (rf_has_spec hz.2 h3)
    cases rf_num_eq a1 b1
    cases rf_num_eq b2 d1
    cases rf_at_eq a4 b4
    cases rf_at_eq a5 b5
    cases rf_at_eq a4 d3
    have k1 := rf_leq_spec hz.1 (rf_p1_num 1 b2) a2 h4
    have k2 := rf_leq0 hz.1 a1 h5
    have k3 := rf_leq1 hz.1 a2 h6
    have k4 := rf_leq0 hz.1 d2 h7
    have k5 := rf_leq1 hz.1 d2 h8
    have x1 : (bv - av).toNat = ((kv - av).toNat + 1) + (bv - kv - 1).toNat := by omega
    rw [x1] at a9
    obtain ⟨dn, hdn⟩ := rf_dep_pre a9
    have hle := rf_dep_le b9
    have x2 : av.toNat + (kv - av).toNat = kv.toNat := by omega
    have x3 : (kv + 1 - av).toNat = (kv - av).toNat + 1 := by omega
    have hst := hdn
    simp only [rf_dep, b9] at hst
    rw [x2, d5] at hst
    have fin : ∀ c : Int × Int × Int × Int, c ∈ [((1 : Int), (1 : Int), (0 : Int), (1 : Int)), (2, 2, 0, 1), (3, 4, 1, 0), (-128, 0, 2, -1), (5, 127, 2, -1)] → c.1 ≤ vv → vv ≤ c.2.1 → c.2.2.1 ≤ nv → 0 ≤ nv + c.2.2.2 → dn = (nv + c.2.2.2).toNat → ∃ z' ∈ ([((1 : Int), (1 : Int), (0 : Int), (1 : Int)), (2, 2, 0, 1), (3, 4, 1, 0), (-128, 0, 2, -1), (5, 127, 2, -1)].filterMap (fun c => match rf_cav? z.1 v c.1 c.2.1 with
      | some E1 => (match rf_cav? E1 n c.2.2.1 129 with
        | some E2 => some (E2, (7, [q1, q2], [a, rf_p1 k 1, rf_p1 n c.2.2.2]) :: z.2)
        | none => none)
      | none => none) : List rf_ES), ∃ l, rf_OKR xt (ρ ++ l) es z' := by
      intro c hc y1 y2 y3 y4 y5
      obtain ⟨E1, e1, e2⟩ := rf_cavo hz.1 d2 y1 y2
      obtain ⟨E2, e3, e4⟩ := rf_cavo e2 b3 y3 (hi := 129) (by omega)
      refine ⟨(E2, (7, [q1, q2], [a, rf_p1 k 1, rf_p1 n c.2.2.2]) :: z.2), List.mem_filterMap.mpr ⟨c, hc, ?_⟩, [], ?_⟩
      · rw [e1]
        dsimp only
        rw [e3]
      · rw [List.append_nil]
        exact ⟨e4, rf_facts_cons (rf_m7 a1 (rf_p1_num 1 b2) (rf_p1_num c.2.2.2 b3) a4 a5 ⟨a6, by omega, y4, by rw [x3, hdn, y5]⟩) hz.2⟩
    split at hst
    next w1 =>
      cases hst
      exact fin (1, 1, 0, 1) (by simp) (by dsimp only; omega) (by dsimp only; omega) (by dsimp only; omega) (by dsimp only; omega) (by dsimp only; omega)
    next w1 =>
      split at hst
      next w2 =>
        split at hst
        next w3 =>
          cases hst
          exact fin (2, 2, 0, 1) (by simp) (by dsimp only; omega) (by dsimp only; omega) (by dsimp only; omega) (by dsimp only; omega) (by dsimp only; omega)
        next => cases hst
      next w2 =>
        split at hst
        next w3 =>
          split at hst
          next w4 =>
            cases hst
            exact fin (3, 4, 1, 0) (by simp) (by dsimp only; omega) (by dsimp only; omega) (by dsimp only; omega) (by dsimp only; omega) (by dsimp only; omega)
          next => cases hst
        next w3 =>
          split at hst
          next w4 =>
            cases hst
            by_cases hv : vv ≤ 0
            · exact fin (-128, 0, 2, -1) (by simp) (by dsimp only; omega) (by dsimp only; omega) (by dsimp only; omega) (by dsimp only; omega) (by dsimp only; omega)
            · exact fin (5, 127, 2, -1) (by simp) (by dsimp only; omega) (by dsimp only; omega) (by dsimp only; omega) (by dsimp only; omega) (by dsimp only; omega)
          next => cases hst
  next => exact rf_snd_self
def rf_R21 (q1 q2 : Nat) (a b d k n v w : rf_AV) (z : rf_ES) : List rf_ES := if rf_has z.2 16 [q1, q2] [a, b, d] && (rf_has z.2 7 [q1, q2] [a, k, n] && (rf_has z.2 1 [q1] [k, v] && (rf_has z.2 1 [q2] [k, w] && (rf_leq z.1 (rf_p1 k 1) b && (rf_leq z.1 (0, 0, 2) v && rf_leq z.1 v (0, 0, 2)))))) then [(rf_cav z.1 w 0 5, z.2)] else [z]
theorem rf_R21_s {q1 q2 : Nat} {a b d k n v w : rf_AV} {z : rf_ES} : rf_snd z (rf_R21 q1 q2 a b d k n v w z) := by
  unfold rf_R21
  split
  next h =>
    simp only [Bool.and_eq_true] at h
    obtain ⟨h1, h2, h3, h4, h5, h6, h7⟩ := h
    intro xt ρ es hz
    obtain ⟨av, bv, dv, f, g, a1, a2, a3, a4, a5, a6, a7, a8, a9⟩ := rf_x16 (rf_has_spec hz.2 h1)
    obtain ⟨av', kv, nv, f', g', b1, b2, b3, b4, b5, b6, b7, b8, b9⟩ := rf_x7 (rf_has_spec hz.2 h2)
    obtain ⟨iv, vv, f2, d1, d2, d3, d4, d5⟩ := rf_x1 (rf_has_spec hz.2 h3)
    obtain ⟨jv, wv, g2, e1, e2, e3, e4, e5⟩ := rf_x1 (rf_has_spec hz.2 h4)
    cases rf_num_eq a1 b1
    cases rf_num_eq b2 d1
    cases rf_num_eq b2 e1
    cases rf_at_eq a4 b4
    cases rf_at_eq a5 b5
    cases rf_at_eq a4 d3
    cases rf_at_eq a5 e3
    have k1 := rf_leq_spec hz.1 (rf_p1_num 1 b2) a2 h5
    have k4 := rf_leq0 hz.1 d2 h6
    have k5 := rf_leq1 hz.1 d2 h7
    have x1 : (bv - av).toNat = ((kv - av).toNat + 1) + (bv - kv - 1).toNat := by omega
    rw [x1] at a9
    obtain ⟨dn, hdn⟩ := rf_dep_pre a9
    have x2 : av.toNat + (kv - av).toNat = kv.toNat := by omega
    have hst := hdn
    simp only [rf_dep, b9] at hst
    rw [x2, d5, e5, if_neg (by omega), if_pos (by omega)] at hst
    split at hst
    next w3 =>
      exact ⟨_, List.mem_cons_self, [], by
        rw [List.append_nil]
        exact ⟨rf_cav_spec hz.1 e2 w3.1 w3.2, hz.2⟩⟩
    next => cases hst
  next => exact rf_snd_self
/-- 22, 23: parts of rows -/
def rf_R22 (x n u i : rf_AV) (z : rf_ES) : List rf_ES := if rf_has z.2 8 [] [x, n, u] && (rf_leq z.1 i u && rf_leq z.1 x (0, 0, 60)) then [(z.1, (9, [], [i, n, (0, 0, 60)]) :: z.2)] else [z]
theorem rf_R22_s {x n u i : rf_AV} {z : rf_ES} (hi : (rf_gi z.1 i.2.1).isSome = true) : rf_snd z (rf_R22 x n u i z) := by
  unfold rf_R22
  split
  next h =>
    simp only [Bool.and_eq_true] at h
    obtain ⟨h1, h2, h3⟩ := h
    refine rf_snd_fact (fun xt ρ es hz => ?_)
    obtain ⟨xv, nv, uv, a1, a2, a3, a4⟩ := rf_x8 (rf_has_spec hz.2 h1)
    obtain ⟨iv, b1⟩ := rf_num_ex hz.1 hi
    have k1 := rf_leq_spec hz.1 b1 a3 h2
    have k2 := rf_leq1 hz.1 a1 h3
    exact rf_m9 b1 a2 rf_num_c (by omega)
  next => exact rf_snd_self
def rf_R23 (x k r i n : rf_AV) (z : rf_ES) : List rf_ES := if rf_has z.2 10 [] [x, k, r] && (rf_has z.2 9 [] [i, n, (0, 0, 60)] && (Nat.beq x.2.1 i.2.1 && (rf_leq z.1 (rf_p1 k 1) n && (rf_leq z.1 (0, 0, 0) k && rf_leq z.1 (0, 0, 0) i)))) then [(rf_cav z.1 r (x.2.2 - i.2.2) (59 + (x.2.2 - i.2.2)), z.2)] else [z]
theorem rf_R23_s {x k r i n : rf_AV} {z : rf_ES} : rf_snd z (rf_R23 x k r i n z) := by
  unfold rf_R23
  split
  next h =>
    simp only [Bool.and_eq_true] at h
    obtain ⟨h1, h2, h3, h4, h5, h6⟩ := h
    intro xt ρ es hz
    obtain ⟨xv, kv, rv, a1, a2, a3, a4⟩ := rf_x10 (rf_has_spec hz.2 h1)
    obtain ⟨iv, nv, cv, b1, b2, b3, b4⟩ := rf_x9 (rf_has_spec hz.2 h2)
    cases rf_num_is b3
    have k1 := rf_leq_spec hz.1 (rf_p1_num 1 a2) b2 h4
    have k2 := rf_leq0 hz.1 a2 h5
    have k3 := rf_leq0 hz.1 b1 h6
    obtain ⟨q, q1, q2⟩ := a1
    obtain ⟨q', q1', q2'⟩ := b1
    rw [Nat.eq_of_beq_eq_true h3, q1'] at q1
    cases q1
    exact ⟨_, List.mem_cons_self, [], by
      rw [List.append_nil]
      exact ⟨rf_cav_spec hz.1 a3 (by omega) (by omega), hz.2⟩⟩
  next => exact rf_snd_self
/-! all rules -/
abbrev rf_RU : Type := Nat × List Nat × List rf_AV
def rf_inf1 (r : rf_RU) (z : rf_ES) : List rf_ES := match r with
  | (1, [q1, q2], [i]) => rf_R1 q1 q2 i z
  | (2, [q1, q2], [i, v, w]) => rf_R2 q1 q2 i v w z
  | (3, [q1, q2], [i, v, w, i2]) => rf_R3 q1 q2 i v w i2 z
  | (4, [], [x, y, u]) => rf_R4 x y u z
  | (5, [k1, k2, k3, k4], [n, s, h]) => rf_R5 k1 k2 k3 k4 n s h z
  | (6, [q1, q2], [i, v, w]) => rf_R6 q1 q2 i v w z
  | (7, [k1, k2, k3, k4], [n, s]) => rf_R7 k1 k2 k3 k4 n s z
  | (8, [k1, k2, k3, k4], [n, s, t]) => rf_R8 k1 k2 k3 k4 n s t z
  | (9, [k1, k2, k3, k4], [n, s, m, t]) => rf_R9 k1 k2 k3 k4 n s m t z
  | (10, [k1, k2, k3, k4], [n, s]) => rf_R10 k1 k2 k3 k4 n s z
  | (11, [q1, q2], [a, b, d]) => rf_R11 q1 q2 a b d z
  | (12, [k1, k2, k3, k4], [n, s, m, t, d, v, w]) => rf_R12 k1 k2 k3 k4 n s m t d v w z
  | (13, [k1, k2, k3, k4], [n, s]) => rf_R13 k1 k2 k3 k4 n s z
  | (14, [q1, q2], [k, o, v, w]) => rf_R14 q1 q2 k o.2.2 v w z
  | (15, [k1, k2, k3, k4], [n, s]) => rf_R15 k1 k2 k3 k4 n s z
  | (16, [k1, k2, k3, k4], [n, s]) => rf_R16 k1 k2 k3 k4 n s z
  | (17, [k1, k2, k3, k4], [n, s, l, r, t]) => rf_R17 k1 k2 k3 k4 n s l r t z
  | (18, [k1, k2, k3, k4], [n, s, l, r, t, u]) => rf_R18 k1 k2 k3 k4 n s l r t u z
  | (19, [k1, k2, k3, k4], [n, s, l, r, u]) => rf_R19 k1 k2 k3 k4 n s l r u z
  | (20, [q1, q2], [a, b, d, k, n, v]) => rf_R20 q1 q2 a b d k n v z
  | (21, [q1, q2], [a, b, d, k, n, v, w]) => rf_R21 q1 q2 a b d k n v w z
  | (22, [], [x, n, u, i]) => if (rf_gi z.1 i.2.1).isSome then rf_R22 x n u i z else [z]
  | (23, [], [x, k, r, i, n]) => rf_R23 x k r i n z
  | (24, [q1, q2], [k, o, s]) => rf_R24 q1 q2 k o s z
  | r => if Nat.ble 100 r.1 then (match hc_all[r.1 - 100]? with
    | some c => hc_inf c r.2.1 r.2.2 z
    | none => [z]) else [z]
theorem rf_inf1_s {r : rf_RU} {z : rf_ES} : rf_snd z (rf_inf1 r z) := by
  unfold rf_inf1
  split
  · exact rf_R1_s
  · exact rf_R2_s
  · exact rf_R3_s
  · exact rf_R4_s
  · exact rf_R5_s
  · exact rf_R6_s
  · exact rf_R7_s
  · exact rf_R8_s
  · exact rf_R9_s
  · exact rf_R10_s
  · exact rf_R11_s
  · exact rf_R12_s
  · exact rf_R13_s
  · exact rf_R14_s
  · exact rf_R15_s
  · exact rf_R16_s
  · exact rf_R17_s
  · exact rf_R18_s
  · exact rf_R19_s
  · exact rf_R20_s
  · exact rf_R21_s
  · split
    next h => exact rf_R22_s h
    next => exact rf_snd_self
  · exact rf_R23_s
  · exact rf_R24_s
  · split
    next =>
      split
      next c hc => exact hc_inf_s (hc_allok c (List.mem_of_getElem? hc))
      next => exact rf_snd_self
    next => exact rf_snd_self
def rf_inf : List rf_RU → rf_ES → List rf_ES
  | [], z => [z]
  | r :: rs, z => (rf_inf1 r z).flatMap (rf_inf rs)
theorem rf_inf_s : ∀ {rs : List rf_RU} {z : rf_ES}, rf_snd z (rf_inf rs z)
  | [], z => rf_snd_self
  | r :: rs, z => fun xt ρ es hz => by
    obtain ⟨z1, m1, l1, h1⟩ := rf_inf1_s (r := r) xt ρ es hz
    obtain ⟨z2, m2, l2, h2⟩ := rf_inf_s (rs := rs) (z := z1) xt (ρ ++ l1) es h1
    exact ⟨z2, List.mem_flatMap.mpr ⟨z1, m1, m2⟩, l1 ++ l2, by rw [← List.append_assoc]; exact h2⟩
def rf_infP (P : rf_AS) (rs : List rf_RU) : List rf_AS := (rf_inf rs (P.1, P.2.2.2.2.1)).map (fun z => rf_wE P z.1 z.2)
theorem rf_alt_inf {cu : rf_CUT} (rs : List rf_RU) (h0 : cu.2.2.2 = rf_infP cu.2.1 rs) : rf_ALT cu := by
  refine rf_alt_gen ?_ (fun xt ρ es hE hf => ?_)
  · intro Q hQ
    rw [h0] at hQ
    obtain ⟨z, -, rfl⟩ := List.mem_map.mp hQ
    exact rf_wE_s _ _ _
  · obtain ⟨z, m1, l, h1, h2⟩ := rf_inf_s (rs := rs) (z := (cu.2.1.1, cu.2.1.2.2.2.2.1)) xt ρ es ⟨hE, hf⟩
    exact ⟨_, by rw [h0]; exact List.mem_map.mpr ⟨z, m1, rfl⟩, l, h1, h2⟩
/-- a ghost's range in pieces, and rules for each of them -/
def rf_sp2 (P : rf_AS) (l : List (Nat × List (Int × Int))) (rss : List (List rf_RU)) : List rf_AS := ((rf_spm P l).zip rss).flatMap (fun q => rf_infP q.1 q.2)
theorem rf_alt_sp2 {cu : rf_CUT} (l : List (Nat × List (Int × Int))) (rss : List (List rf_RU)) (h0 : cu.2.2.2 = rf_sp2 cu.2.1 l rss) (h : (rf_cvm cu.2.1 l && Nat.beq (rf_spm cu.2.1 l).length rss.length) = true) : rf_ALT cu := by
  simp only [Bool.and_eq_true] at h
  have hlen := Nat.eq_of_beq_eq_true h.2
  intro D cl tys A H0 xt nL ρ ap ad ws H locs ls st hR
  obtain ⟨Q, Q1, Q2, Q3⟩ := rf_spm_spec h.1 hR.2.1
  have hRQ := rf_rel_E hR Q2 (by rw [Q3]) (by rw [Q3]) (by rw [Q3]) (by rw [Q3]; exact hR.2.2.2.2.1.2.2.2)
  obtain ⟨i, hi⟩ := List.getElem?_of_mem Q1
  have hil : i < rss.length := by rw [← hlen]; exact (List.getElem?_eq_some_iff.mp hi).1
  have hz : (Q, rss[i]) ∈ (rf_spm cu.2.1 l).zip rss := by
    refine List.mem_of_getElem? (i := i) ?_
    rw [List.getElem?_zip_eq_some]
    exact ⟨hi, List.getElem?_eq_getElem hil⟩
  obtain ⟨alt, a1, a2, lx, a3⟩ := rf_alt_inf (cu := (0, Q, [], rf_infP Q rss[i])) rss[i] rfl D cl tys A H0 xt nL ρ ap ad ws H locs ls st hRQ
  refine ⟨alt, ?_, ?_, lx, a3⟩
  · rw [h0]
    exact List.mem_flatMap.mpr ⟨_, hz, a1⟩
  · rw [a2]
    show Q.2.2.2.2.2 = cu.2.1.2.2.2.2.2
    rw [Q3]
