/-! THE CHECKER, fields and rows -/
/-- what classes there are, their fields' types, and the words on them -/
def rf_CL (cl : List vw_C) (ct : List (Nat → FieldType)) (Ts : List Cond) : Prop := ∀ (ci : Nat) (C : String) (T : u_T) (N : Nat), cl[ci]? = some (C, T, N) → ∃ ty, ct[ci]? = some ty ∧ (∀ k, k < N → parseFieldDescriptor (T k).2.2.1 = some (ty k)) ∧ (∀ a, a < N → ∀ b, b < N → a ≠ b → (T a).2.1 ≠ (T b).2.1) ∧ ∀ w ∈ u_ws C T N, w ∈ Ts
/-- a class file's field entries: entry, class, field -/
def rf_FLok (own : String) (cl : List vw_C) (FL : List (Nat × Nat × Nat)) (args : Array Value) (s : State) : Prop := ∀ q ∈ FL, ∃ (C : String) (T : u_T) (N : Nat), cl[q.2.1]? = some (C, T, N) ∧ q.2.2 < N ∧ (T q.2.2).1 = C ∧ (Cond.fieldLink own q.1 C (T q.2.2).2.1 (T q.2.2).2.2.1).before args s = true
/-- the kinds of rows: 0 int, 1 long, 2 byte, 3 short, 4 references to objects of one class -/
def rf_TY (tys : List (ClassId × FieldType)) (CO : String) : Prop := tys.map Prod.snd = [.int, .long, .byte, .short, .object CO]
theorem rf_TY_at {tys : List (ClassId × FieldType)} {CO : String} (h : rf_TY tys CO) {k : Nat} {cA : ClassId} {ty ty' : FieldType} (h1 : tys[k]? = some (cA, ty)) (h2 : ([.int, .long, .byte, .short, .object CO] : List FieldType)[k]? = some ty') : ty = ty' := by
  have e : (tys.map Prod.snd)[k]? = some ty := by rw [List.getElem?_map, h1]; rfl
  rw [h, h2] at e
  exact (Option.some.inj e).symm
theorem rf_ws_at {R : rf_AC → va_E → Prop} {w : List rf_AC} {ws : va_W} {ad : List Nat} {q : Nat} {ac : rf_AC} (hw : rf_L R w (ws.map Prod.snd)) (ha : ws.map Prod.fst = ad) (h : w[q]? = some ac) : ∃ a e, ws[q]? = some (a, e) ∧ ad[q]? = some a ∧ R ac e := by
  obtain ⟨e, h1, h2⟩ := rf_L_get hw h
  rw [List.getElem?_map] at h1
  cases h3 : ws[q]? with
  | none => rw [h3] at h1; cases h1
  | some x =>
    rw [h3] at h1
    obtain ⟨a, e'⟩ := x
    have e1 : e' = e := Option.some.inj h1
    subst e1
    exact ⟨a, e', rfl, by rw [← ha, List.getElem?_map, h3]; rfl, h2⟩
theorem rf_set_fst {ws : va_W} {q a : Nat} {e e' : va_E} (h : ws[q]? = some (a, e)) : (ws.set q (a, e')).map Prod.fst = ws.map Prod.fst := by
  rw [List.map_set]
  apply List.ext_getElem?
  intro i
  by_cases hi : i = q
  · subst hi
    have hl : i < (ws.map Prod.fst).length := by
      rw [List.length_map]
      exact (List.getElem?_eq_some_iff.mp h).1
    rw [List.getElem?_set_self hl, List.getElem?_map, h]
    rfl
  · rw [List.getElem?_set_ne (Ne.symm hi)]
theorem rf_set_snd {ws : va_W} {q a : Nat} {e' : va_E} : (ws.set q (a, e')).map Prod.snd = (ws.map Prod.snd).set q e' := List.map_set
/-- facts that don't speak of the cell q -/
def rf_drop (q : Nat) (fs : List rf_FC) : List rf_FC := fs.filter (fun f => !(f.2.1.contains q))
theorem rf_map_set {es : List va_E} {q : Nat} {e : va_E} {ks : List Nat} (h : ks.contains q = false) : ks.map (fun k => (es.set q e)[k]?) = ks.map (fun k => es[k]?) := by
  apply List.map_congr_left
  intro k hk
  have hne : q ≠ k := by
    intro z
    subst z
    rw [List.contains_iff_mem.mpr hk] at h
    cases h
  rw [List.getElem?_set_ne hne]
theorem rf_fact_set {xt : Nat → Nat} {ρ : List Int} {es : List va_E} {q : Nat} {e : va_E} {f : rf_FC} (h : rf_fact xt ρ es f) (hq : f.2.1.contains q = false) : rf_fact xt ρ (es.set q e) f := by
  obtain ⟨xs, h1, h2⟩ := h
  exact ⟨xs, h1, by rw [rf_map_set hq]; exact h2⟩
theorem rf_facts_drop {xt : Nat → Nat} {ρ : List Int} {es : List va_E} {q : Nat} {e : va_E} {fs : List rf_FC} (h : rf_facts xt ρ es fs) : rf_facts xt ρ (es.set q e) (rf_drop q fs) := by
  intro f hf
  obtain ⟨h1, h2⟩ := List.mem_filter.mp hf
  exact rf_fact_set (h f h1) (by simpa using h2)
/-- is the number a at most the number b -/
def rf_lec : List (Nat × Nat × Int) → Nat → Nat → Int → Bool
  | [], _, _, _ => false
  | c :: l, g, h, d => (Nat.beq c.1 g && Nat.beq c.2.1 h && decide (c.2.2 ≤ d)) || rf_lec l g h d
def rf_leqd (E : rf_EV) (a b : rf_AV) : Bool :=
  (Nat.beq a.2.1 b.2.1 && decide (a.2.2 ≤ b.2.2)) || (match rf_gi E a.2.1, rf_gi E b.2.1 with
    | some q, some q' => decide (q.2.1 + a.2.2 ≤ q'.1 + b.2.2)
    | _, _ => false) || rf_lec E.2 a.2.1 b.2.1 (b.2.2 - a.2.2)
theorem rf_lec_spec {ρ : List Int} {g h : Nat} {d x y : Int} (hx : rf_r ρ g = some x) (hy : rf_r ρ h = some y) : ∀ {l : List (Nat × Nat × Int)}, (∀ c ∈ l, ∃ a b, rf_r ρ c.1 = some a ∧ rf_r ρ c.2.1 = some b ∧ a ≤ b + c.2.2) → rf_lec l g h d = true → x ≤ y + d
  | [], _, h => by cases h
  | c :: l, hl, h => by
    simp only [rf_lec, Bool.or_eq_true, Bool.and_eq_true, decide_eq_true_eq] at h
    rcases h with ⟨⟨h1, h2⟩, h3⟩ | h
    · obtain ⟨a, b, e1, e2, e3⟩ := hl c List.mem_cons_self
      rw [Nat.eq_of_beq_eq_true h1, hx] at e1
      rw [Nat.eq_of_beq_eq_true h2, hy] at e2
      cases e1
      cases e2
      omega
    · exact rf_lec_spec hx hy (fun z hz => hl z (List.mem_cons_of_mem _ hz)) h
theorem rf_leqd_spec {ρ : List Int} {E : rf_EV} (hE : rf_okE ρ E) {a b : rf_AV} {x y : Int} (hx : rf_num ρ a x) (hy : rf_num ρ b y) (h : rf_leqd E a b = true) : x ≤ y := by
  obtain ⟨r, hr, rfl⟩ := hx
  obtain ⟨r', hr', rfl⟩ := hy
  simp only [rf_leqd, Bool.or_eq_true, Bool.and_eq_true, decide_eq_true_eq] at h
  rcases h with (⟨h1, h2⟩ | h) | h
  · rw [Nat.eq_of_beq_eq_true h1, hr'] at hr
    cases hr
    omega
  · split at h
    next q q' hq hq' =>
      have i1 := rf_ivl hE hq hr
      have i2 := rf_ivl hE hq' hr'
      have := of_decide_eq_true h
      omega
    next => cases h
  · have := rf_lec_spec hr hr' hE.2.2 h
    omega
/-- also by one told bound ahead -/
def rf_leq (E : rf_EV) (a b : rf_AV) : Bool := rf_leqd E a b || E.2.any (fun c => Nat.beq c.1 a.2.1 && rf_leqd E (0, c.2.1, a.2.2 + c.2.2) b)
theorem rf_leq_spec {ρ : List Int} {E : rf_EV} (hE : rf_okE ρ E) {a b : rf_AV} {x y : Int} (hx : rf_num ρ a x) (hy : rf_num ρ b y) (h : rf_leq E a b = true) : x ≤ y := by
  simp only [rf_leq, Bool.or_eq_true] at h
  rcases h with h | h
  · exact rf_leqd_spec hE hx hy h
  · obtain ⟨c, c1, c2⟩ := List.any_eq_true.mp h
    simp only [Bool.and_eq_true] at c2
    obtain ⟨u, v, e1, e2, e3⟩ := hE.2.2 c c1
    obtain ⟨r, r1, r2⟩ := hx
    rw [Nat.eq_of_beq_eq_true c2.1, r1] at e1
    cases e1
    have := rf_leqd_spec hE (a := (0, c.2.1, a.2.2 + c.2.2)) ⟨v, e2, rfl⟩ hy c2.2
    dsimp only at this
    omega
theorem rf_dep_congr {f g f' g' : Nat → Int32} {a : Nat} : ∀ {n : Nat}, (∀ j, a ≤ j → j < a + n → f' j = f j ∧ g' j = g j) → rf_dep f' g' a n = rf_dep f g a n
  | 0, _ => rfl
  | n + 1, h => by
    have ih : rf_dep f' g' a n = rf_dep f g a n := rf_dep_congr (fun j h1 h2 => h j h1 (by omega))
    obtain ⟨e1, e2⟩ := h (a + n) (by omega) (by omega)
    simp only [rf_dep, ih, e1, e2]
theorem rf_lin_le {f g t u : Nat → Int32} {ba lb : Nat} : ∀ {n s : Nat}, rf_lin f g t u ba lb n = some s → ∀ {k : Nat}, k ≤ n → ∃ r, rf_lin f g t u ba lb k = some r ∧ r ≤ s
  | 0, s, h, k, hk => ⟨s, by rw [show k = 0 by omega]; exact h, Nat.le_refl _⟩
  | n + 1, s, h, k, hk => by
    by_cases hkn : k = n + 1
    · subst hkn
      exact ⟨s, h, Nat.le_refl _⟩
    · have h' := h
      simp only [rf_lin] at h'
      cases e : rf_lin f g t u ba lb n with
      | none => rw [e] at h'; cases h'
      | some r =>
        rw [e] at h'
        dsimp only at h'
        split at h'
        next hc =>
          cases h'
          obtain ⟨r', e1, e2⟩ := rf_lin_le e (k := k) (by omega)
          exact ⟨r', e1, by omega⟩
        next => cases h'
theorem rf_lin_congr {f g t u f' g' t' u' : Nat → Int32} {ba lb : Nat} : ∀ {n s : Nat}, rf_lin f g t u ba lb n = some s → (∀ j, ba ≤ j → j < ba + s → f' j = f j ∧ g' j = g j) → (∀ j, lb ≤ j → j < lb + n → t' j = t j ∧ u' j = u j) → rf_lin f' g' t' u' ba lb n = some s
  | 0, s, h, _, _ => h
  | n + 1, s, h, h1, h2 => by
    have h' := h
    simp only [rf_lin] at h'
    cases e : rf_lin f g t u ba lb n with
    | none => rw [e] at h'; cases h'
    | some r =>
      rw [e] at h'
      dsimp only at h'
      split at h'
      next hc =>
        cases h'
        obtain ⟨e1, e2⟩ := h2 (lb + n) (by omega) (by omega)
        have ih := rf_lin_congr e (fun j a b => h1 j a (by omega)) (fun j a b => h2 j a (by omega))
        have d1 : rf_dep f' g' (ba + r) ((t (lb + n)).toInt.toNat - r) = rf_dep f g (ba + r) ((t (lb + n)).toInt.toNat - r) := rf_dep_congr (fun j a b => h1 j (by omega) (by omega))
        have d2 : rf_dep f' g' (ba + (t (lb + n)).toInt.toNat) ((u (lb + n)).toInt.toNat - (t (lb + n)).toInt.toNat) = rf_dep f g (ba + (t (lb + n)).toInt.toNat) ((u (lb + n)).toInt.toNat - (t (lb + n)).toInt.toNat) := rf_dep_congr (fun j a b => h1 j (by omega) (by omega))
        simp only [rf_lin, ih, e1, e2, d1, d2]
        rw [if_pos hc]
      next => cases h'
/-- is place i outside of what a text's fact speaks of -/
def rf_kt (ba lb : Int) (E : rf_EV) (q : Nat) (i : rf_AV) (k1 k2 k3 k4 : Nat) (n s : rf_AV) : Bool :=
  (if Nat.beq q k1 || Nat.beq q k2 then rf_leq E (0, s.2.1, s.2.2 + ba) i || rf_leq E (0, i.2.1, i.2.2 + 1) (0, 0, ba) else true) && (if Nat.beq q k3 || Nat.beq q k4 then rf_leq E (0, n.2.1, n.2.2 + lb) i || rf_leq E (0, i.2.1, i.2.2 + 1) (0, 0, lb) else true)
/-- a fact that a write at place i of the row q leaves as it is -/
def rf_keep (E : rf_EV) (q : Nat) (i : rf_AV) (f : rf_FC) : Bool :=
  !(f.2.1.contains q) || (match f with
    | (1, [_], [j, _]) => rf_leq E (0, j.2.1, j.2.2 + 1) i || rf_leq E (0, i.2.1, i.2.2 + 1) j
    | (6, [_, _], [n]) => rf_leq E n i
    | (7, [_, _], [_, b, _]) => rf_leq E b i
    | (12, [k1, k2, k3, k4], [n, s]) => rf_kt 130 61 E q i k1 k2 k3 k4 n s
    | (14, [k1, k2, k3, k4], [n, s]) => rf_kt 0 0 E q i k1 k2 k3 k4 n s
    | (13, [_, _], [k, o]) => rf_leq E k i && rf_leq E (0, i.2.1, i.2.2 + 1) o
    | (17, [_, _], [j]) => rf_leq E j i && rf_leq E i j
    | (18, [k1, k2, k3, k4], [n, _, _, t, _]) => rf_kt 130 61 E q i k1 k2 k3 k4 n t
    | _ => false)
theorem rf_num_add {ρ : List Int} {a : rf_AV} {x c : Int} (h : rf_num ρ a x) : rf_num ρ (0, a.2.1, a.2.2 + c) (x + c) := by
  obtain ⟨r, h1, h2⟩ := h
  exact ⟨r, h1, by dsimp only; omega⟩
theorem rf_num_c {ρ : List Int} {c : Int} : rf_num ρ (0, 0, c) c := ⟨0, rfl, by dsimp only; omega⟩
theorem rf_kt_spec {ρ : List Int} {E : rf_EV} (hE : rf_okE ρ E) {es : List va_E} {q : Nat} {i : rf_AV} {iv : Int} (hi : rf_num ρ i iv) (h0 : 0 ≤ iv) {cA : ClassId} {n : Nat} {f0 : Nat → Int32} {x : Int32} (he : es[q]? = some (.inl (cA, n, .inl f0))) {ba lb k1 k2 k3 k4 : Nat} {nn ss : rf_AV} {nv sv : Int} (hn : rf_num ρ nn nv) (hs : rf_num ρ ss sv) (hk : rf_kt (ba : Int) (lb : Int) E q i k1 k2 k3 k4 nn ss = true) {e1 e2 e3 e4 : va_E} (h1 : es[k1]? = some e1) (h2 : es[k2]? = some e2) (h3 : es[k3]? = some e3) (h4 : es[k4]? = some e4) (hX : rf_txt ba lb e1 e2 e3 e4 nv sv)
    (at' : ∀ (k : Nat) (e : va_E), es[k]? = some e → ∀ (c1 : ClassId) (n1 : Nat) (g : Nat → Int32), e = .inl (c1, n1, .inl g) → ∃ (g' : Nat → Int32), (es.set q (.inl (cA, n, .inl (upd f0 iv.toNat x))))[k]? = some (.inl (c1, n1, .inl g')) ∧ (∀ j : Nat, (j : Int) ≠ iv → g' j = g j) ∧ (q ≠ k → g' = g)) :
    ∃ d1 d2 d3 d4, (es.set q (.inl (cA, n, .inl (upd f0 iv.toNat x))))[k1]? = some d1 ∧ (es.set q (.inl (cA, n, .inl (upd f0 iv.toNat x))))[k2]? = some d2 ∧ (es.set q (.inl (cA, n, .inl (upd f0 iv.toNat x))))[k3]? = some d3 ∧ (es.set q (.inl (cA, n, .inl (upd f0 iv.toNat x))))[k4]? = some d4 ∧ rf_txt ba lb d1 d2 d3 d4 nv sv := by
  obtain ⟨c1, c2, c3, c4, n1, n2, n3, n4, f, g, t, u, q1, q2, q3, q4, q5, q6, q7⟩ := hX
  obtain ⟨f', r1, r2, r3⟩ := at' k1 e1 h1 c1 n1 f q1
  obtain ⟨g', s1, s2, s3⟩ := at' k2 e2 h2 c2 n2 g q2
  obtain ⟨t', t1, t2, t3⟩ := at' k3 e3 h3 c3 n3 t q3
  obtain ⟨u', u1, u2, u3⟩ := at' k4 e4 h4 c4 n4 u q4
  simp only [rf_kt, Bool.and_eq_true] at hk
  refine ⟨_, _, _, _, r1, s1, t1, u1, c1, c2, c3, c4, n1, n2, n3, n4, f', g', t', u', rfl, rfl, rfl, rfl, q5, q6, rf_lin_congr q7 ?_ ?_⟩
  · have hk1 := hk.1
    split at hk1
    next =>
      have hout : sv + ba ≤ iv ∨ iv + 1 ≤ ba := by
        rcases Bool.or_eq_true _ _ ▸ hk1 with z | z
        · exact Or.inl (rf_leq_spec hE (rf_num_add hs) hi z)
        · exact Or.inr (rf_leq_spec hE (rf_num_add hi) rf_num_c z)
      intro j a b
      exact ⟨r2 j (by omega), s2 j (by omega)⟩
    next hc =>
      simp only [Bool.or_eq_true, not_or] at hc
      intro j _ _
      rw [r3 (fun z => hc.1 (by rw [z]; exact Nat.beq_refl _)), s3 (fun z => hc.2 (by rw [z]; exact Nat.beq_refl _))]
      exact ⟨rfl, rfl⟩
  · have hk1 := hk.2
    split at hk1
    next =>
      have hout : nv + lb ≤ iv ∨ iv + 1 ≤ lb := by
        rcases Bool.or_eq_true _ _ ▸ hk1 with z | z
        · exact Or.inl (rf_leq_spec hE (rf_num_add hn) hi z)
        · exact Or.inr (rf_leq_spec hE (rf_num_add hi) rf_num_c z)
      intro j a b
      exact ⟨t2 j (by omega), u2 j (by omega)⟩
    next hc =>
      simp only [Bool.or_eq_true, not_or] at hc
      intro j _ _
      rw [t3 (fun z => hc.1 (by rw [z]; exact Nat.beq_refl _)), u3 (fun z => hc.2 (by rw [z]; exact Nat.beq_refl _))]
      exact ⟨rfl, rfl⟩
theorem rf_kp_spec {ρ : List Int} {E : rf_EV} (hE : rf_okE ρ E) {es : List va_E} {q : Nat} {i : rf_AV} {iv : Int} (hi : rf_num ρ i iv) (h0 : 0 ≤ iv) {cA : ClassId} {n : Nat} {f0 : Nat → Int32} {x : Int32} (he : es[q]? = some (.inl (cA, n, .inl f0))) {k1 k2 k3 k4 : Nat} {nn ss : rf_AV} {nv zv mv sv dv : Int} (hn : rf_num ρ nn nv) (hs : rf_num ρ ss sv) (hk : rf_kt 130 61 E q i k1 k2 k3 k4 nn ss = true) {e1 e2 e3 e4 : va_E} (h1 : es[k1]? = some e1) (h2 : es[k2]? = some e2) (h3 : es[k3]? = some e3) (h4 : es[k4]? = some e4) (hX : rf_ps e1 e2 e3 e4 nv zv mv sv dv)
    (at' : ∀ (k : Nat) (e : va_E), es[k]? = some e → ∀ (c1 : ClassId) (n1 : Nat) (g : Nat → Int32), e = .inl (c1, n1, .inl g) → ∃ (g' : Nat → Int32), (es.set q (.inl (cA, n, .inl (upd f0 iv.toNat x))))[k]? = some (.inl (c1, n1, .inl g')) ∧ (∀ j : Nat, (j : Int) ≠ iv → g' j = g j) ∧ (q ≠ k → g' = g)) :
    ∃ d1 d2 d3 d4, (es.set q (.inl (cA, n, .inl (upd f0 iv.toNat x))))[k1]? = some d1 ∧ (es.set q (.inl (cA, n, .inl (upd f0 iv.toNat x))))[k2]? = some d2 ∧ (es.set q (.inl (cA, n, .inl (upd f0 iv.toNat x))))[k3]? = some d3 ∧ (es.set q (.inl (cA, n, .inl (upd f0 iv.toNat x))))[k4]? = some d4 ∧ rf_ps d1 d2 d3 d4 nv zv mv sv dv := by
  obtain ⟨c1, c2, c3, c4, n1, n2, n3, n4, f, g, t, u, q1, q2, q3, q4, b1, b2, b3, b4, b5, q5, q6, q7⟩ := hX
  obtain ⟨f', r1, r2, r3⟩ := at' k1 e1 h1 c1 n1 f q1
  obtain ⟨g', s1, s2, s3⟩ := at' k2 e2 h2 c2 n2 g q2
  obtain ⟨t', t1, t2, t3⟩ := at' k3 e3 h3 c3 n3 t q3
  obtain ⟨u', u1, u2, u3⟩ := at' k4 e4 h4 c4 n4 u q4
  simp only [rf_kt, Bool.and_eq_true] at hk
  have hA : ∀ j, 130 ≤ j → j < 130 + sv.toNat → f' j = f j ∧ g' j = g j := by
    have hk1 := hk.1
    split at hk1
    next =>
      have hout : sv + 130 ≤ iv ∨ iv + 1 ≤ 130 := by
        rcases Bool.or_eq_true _ _ ▸ hk1 with z | z
        · exact Or.inl (rf_leq_spec hE (rf_num_add hs) hi z)
        · exact Or.inr (rf_leq_spec hE (rf_num_add hi) rf_num_c z)
      intro j a b
      exact ⟨r2 j (by omega), s2 j (by omega)⟩
    next hc =>
      simp only [Bool.or_eq_true, not_or] at hc
      intro j _ _
      rw [r3 (fun z => hc.1 (by rw [z]; exact Nat.beq_refl _)), s3 (fun z => hc.2 (by rw [z]; exact Nat.beq_refl _))]
      exact ⟨rfl, rfl⟩
  have hB : ∀ j, 61 ≤ j → j < 61 + nv.toNat → t' j = t j ∧ u' j = u j := by
    have hk1 := hk.2
    split at hk1
    next =>
      have hout : nv + 61 ≤ iv ∨ iv + 1 ≤ 61 := by
        rcases Bool.or_eq_true _ _ ▸ hk1 with z | z
        · exact Or.inl (rf_leq_spec hE (rf_num_add hn) hi z)
        · exact Or.inr (rf_leq_spec hE (rf_num_add hi) rf_num_c z)
      intro j a b
      exact ⟨t2 j (by omega), u2 j (by omega)⟩
    next hc =>
      simp only [Bool.or_eq_true, not_or] at hc
      intro j _ _
      rw [t3 (fun z => hc.1 (by rw [z]; exact Nat.beq_refl _)), u3 (fun z => hc.2 (by rw [z]; exact Nat.beq_refl _))]
      exact ⟨rfl, rfl⟩
  refine ⟨_, _, _, _, r1, s1, t1, u1, c1, c2, c3, c4, n1, n2, n3, n4, f', g', t', u', rfl, rfl, rfl, rfl, b1, b2, b3, b4, b5, rf_lin_congr q5 (fun j a b => hA j a (by omega)) hB, ?_, ?_⟩
  · rcases q6 with q6 | q6
    · exact Or.inl q6
    · refine Or.inr ?_
      rw [rf_dep_congr (fun j a b => hA j (by omega) (by omega))]
      exact q6
  · rw [rf_dep_congr (fun j a b => hA j (by omega) (by omega))]
    exact q7
theorem rf_keep_spec {xt : Nat → Nat} {ρ : List Int} {E : rf_EV} (hE : rf_okE ρ E) {es : List va_E} {q : Nat} {i : rf_AV} {iv : Int} (hi : rf_num ρ i iv) (h0 : 0 ≤ iv) {f : rf_FC} (hf : rf_fact xt ρ es f) {cA : ClassId} {n : Nat} {f0 : Nat → Int32} {x : Int32} (he : es[q]? = some (.inl (cA, n, .inl f0))) (hk : rf_keep E q i f = true) :
    rf_fact xt ρ (es.set q (.inl (cA, n, .inl (upd f0 iv.toNat x)))) f := by
  have hl := (List.getElem?_eq_some_iff.mp he).1
  simp only [rf_keep, Bool.or_eq_true] at hk
  rcases hk with hk | hk
  · exact rf_fact_set hf (by simpa using hk)
  · have at' : ∀ (k : Nat) (e : va_E), es[k]? = some e → ∀ (c1 : ClassId) (n1 : Nat) (g : Nat → Int32), e = .inl (c1, n1, .inl g) → ∃ (g' : Nat → Int32), (es.set q (.inl (cA, n, .inl (upd f0 iv.toNat x))))[k]? = some (.inl (c1, n1, .inl g')) ∧ (∀ j : Nat, (j : Int) ≠ iv → g' j = g j) ∧ (q ≠ k → g' = g) := by
      intro k e hke c1 n1 g heq
      by_cases hkq : k = q
      · subst hkq
        rw [he] at hke
        cases hke
        cases heq
        refine ⟨upd f0 iv.toNat x, by rw [List.getElem?_set_self hl], fun j hj => ?_, fun z => absurd rfl z⟩
        simp only [upd]
        rw [if_neg (by omega)]
      · exact ⟨g, by rw [List.getElem?_set_ne (Ne.symm hkq), hke, heq], fun j _ => rfl, fun _ => rfl⟩
    split at hk
    next k1 j v =>
      obtain ⟨xs, hx, hX⟩ := hf
      match xs, hx with
      | [jv, vv], hx =>
        have hne : jv ≠ iv := by
          rcases Bool.or_eq_true _ _ ▸ hk with z | z
          · have := rf_leq_spec hE (rf_num_add hx.1) hi z
            omega
          · have := rf_leq_spec hE (rf_num_add hi) hx.1 z
            omega
        dsimp only [List.map] at hX
        cases h1 : es[k1]? with
        | none => rw [h1] at hX; exact hX.elim
        | some e1 =>
          rw [h1] at hX
          obtain ⟨c1, n1, f, q1, q2, q3⟩ := hX
          obtain ⟨f', r1, r2, -⟩ := at' k1 e1 h1 c1 n1 f q1
          refine ⟨[jv, vv], hx, ?_⟩
          dsimp only [List.map]
          rw [r1]
          exact ⟨c1, n1, f', rfl, q2, by rw [r2 _ (by omega)]; exact q3⟩
    next k1 k2 nn =>
      obtain ⟨xs, hx, hX⟩ := hf
      match xs, hx with
      | [nv], hx =>
        have hle := rf_leq_spec hE hx.1 hi hk
        dsimp only [List.map] at hX
        cases h1 : es[k1]? with
        | none => rw [h1] at hX; exact hX.elim
        | some e1 =>
          cases h2 : es[k2]? with
          | none => rw [h1, h2] at hX; exact hX.elim
          | some e2 =>
            rw [h1, h2] at hX
            obtain ⟨c1, c2, n1, n2, f, g, q1, q2, q3⟩ := hX
            obtain ⟨f', r1, r2, -⟩ := at' k1 e1 h1 c1 n1 f q1
            obtain ⟨g', r3, r4, -⟩ := at' k2 e2 h2 c2 n2 g q2
            refine ⟨[nv], hx, ?_⟩
            dsimp only [List.map]
            rw [r1, r3]
            exact ⟨c1, c2, n1, n2, f', g', rfl, rfl, fun j hj => by rw [r2 j (by omega), r4 j (by omega)]; exact q3 j hj⟩
    next k1 k2 a b d =>
      obtain ⟨xs, hx, hX⟩ := hf
      match xs, hx with
      | [av, bv, dv], hx =>
        have hle := rf_leq_spec hE hx.2.1 hi hk
        dsimp only [List.map] at hX
        cases h1 : es[k1]? with
        | none => rw [h1] at hX; exact hX.elim
        | some e1 =>
          cases h2 : es[k2]? with
          | none => rw [h1, h2] at hX; exact hX.elim
          | some e2 =>
            rw [h1, h2] at hX
            obtain ⟨c1, c2, n1, n2, f, g, q1, q2, q3, q4, q5, q6⟩ := hX
            obtain ⟨f', r1, r2, -⟩ := at' k1 e1 h1 c1 n1 f q1
            obtain ⟨g', r3, r4, -⟩ := at' k2 e2 h2 c2 n2 g q2
            refine ⟨[av, bv, dv], hx, ?_⟩
            dsimp only [List.map]
            rw [r1, r3]
            refine ⟨c1, c2, n1, n2, f', g', rfl, rfl, q3, q4, q5, ?_⟩
            rw [← q6]
            exact rf_dep_congr (fun j h1 h2 => ⟨r2 j (by omega), r4 j (by omega)⟩)
    next k1 k2 k3 k4 nn ss =>
      obtain ⟨xs, hx, hX⟩ := hf
      match xs, hx with
      | [nv, sv], hx =>
        dsimp only [List.map] at hX
        have hs : ∀ y ∈ [es[k1]?, es[k2]?, es[k3]?, es[k4]?], ∃ e, y = some e := rf_XP_some hX
        obtain ⟨e1, h1⟩ := hs es[k1]? (by simp)
        obtain ⟨e2, h2⟩ := hs es[k2]? (by simp)
        obtain ⟨e3, h3⟩ := hs es[k3]? (by simp)
        obtain ⟨e4, h4⟩ := hs es[k4]? (by simp)
        rw [h1, h2, h3, h4] at hX
        obtain ⟨d1, d2, d3, d4, p1, p2, p3, p4, p5⟩ := rf_kt_spec (ba := 130) (lb := 61) hE hi h0 he hx.1 hx.2.1 hk h1 h2 h3 h4 hX at'
        refine ⟨[nv, sv], hx, ?_⟩
        dsimp only [List.map]
        rw [p1, p2, p3, p4]
        exact p5
    next k1 k2 k3 k4 nn ss =>
      obtain ⟨xs, hx, hX⟩ := hf
      match xs, hx with
      | [nv, sv], hx =>
        dsimp only [List.map] at hX
        have hs : ∀ y ∈ [es[k1]?, es[k2]?, es[k3]?, es[k4]?], ∃ e, y = some e := rf_XP_some hX
        obtain ⟨e1, h1⟩ := hs es[k1]? (by simp)
        obtain ⟨e2, h2⟩ := hs es[k2]? (by simp)
        obtain ⟨e3, h3⟩ := hs es[k3]? (by simp)
        obtain ⟨e4, h4⟩ := hs es[k4]? (by simp)
        rw [h1, h2, h3, h4] at hX
        obtain ⟨d1, d2, d3, d4, p1, p2, p3, p4, p5⟩ := rf_kt_spec (ba := 0) (lb := 0) hE hi h0 he hx.1 hx.2.1 hk h1 h2 h3 h4 hX at'
        refine ⟨[nv, sv], hx, ?_⟩
        dsimp only [List.map]
        rw [p1, p2, p3, p4]
        exact p5
    next k1 k2 kk oo =>
      simp only [Bool.and_eq_true] at hk
      obtain ⟨xs, hx, hX⟩ := hf
      match xs, hx with
      | [kv, ov], hx =>
        have hle := rf_leq_spec hE hx.1 hi hk.1
        have hlo := rf_leq_spec hE (rf_num_add hi) hx.2.1 hk.2
        dsimp only [List.map] at hX
        cases h1 : es[k1]? with
        | none => rw [h1] at hX; exact hX.elim
        | some e1 =>
          cases h2 : es[k2]? with
          | none => rw [h1, h2] at hX; exact hX.elim
          | some e2 =>
            rw [h1, h2] at hX
            obtain ⟨c1, c2, n1, n2, f, g, q1, q2, q3, q4⟩ := hX
            obtain ⟨f', r1, r2, -⟩ := at' k1 e1 h1 c1 n1 f q1
            obtain ⟨g', r3, r4, -⟩ := at' k2 e2 h2 c2 n2 g q2
            refine ⟨[kv, ov], hx, ?_⟩
            dsimp only [List.map]
            rw [r1, r3]
            exact ⟨c1, c2, n1, n2, f', g', rfl, rfl, q3, fun j hj => by rw [r2 j (by omega), r4 j (by omega), r2 (ov.toNat + j) (by omega), r4 (ov.toNat + j) (by omega)]; exact q4 j hj⟩
    next k1 k2 jj =>
      simp only [Bool.and_eq_true] at hk
      obtain ⟨xs, hx, hX⟩ := hf
      match xs, hx with
      | [jv], hx =>
        have hle := rf_leq_spec hE hx.1 hi hk.1
        have hlo := rf_leq_spec hE hi hx.1 hk.2
        dsimp only [List.map] at hX
        cases h1 : es[k1]? with
        | none => rw [h1] at hX; exact hX.elim
        | some e1 =>
          cases h2 : es[k2]? with
          | none => rw [h1, h2] at hX; exact hX.elim
          | some e2 =>
            rw [h1, h2] at hX
            obtain ⟨c1, c2, n1, n2, f, g, q1, q2, q3⟩ := hX
            obtain ⟨f', r1, r2, -⟩ := at' k1 e1 h1 c1 n1 f q1
            obtain ⟨g', r3, r4, -⟩ := at' k2 e2 h2 c2 n2 g q2
            refine ⟨[jv], hx, ?_⟩
            dsimp only [List.map]
            rw [r1, r3]
            exact ⟨c1, c2, n1, n2, f', g', rfl, rfl, fun j hj hji => by rw [r2 j (by omega), r4 j (by omega)]; exact q3 j hj hji⟩
    next k1 k2 k3 k4 nn ss mm tt dd =>
      obtain ⟨xs, hx, hX⟩ := hf
      match xs, hx with
      | [nv, sv, mv, tv, dv], hx =>
        dsimp only [List.map] at hX
        have hs : ∀ y ∈ [es[k1]?, es[k2]?, es[k3]?, es[k4]?], ∃ e, y = some e := rf_XP_some hX
        obtain ⟨e1, h1⟩ := hs es[k1]? (by simp)
        obtain ⟨e2, h2⟩ := hs es[k2]? (by simp)
        obtain ⟨e3, h3⟩ := hs es[k3]? (by simp)
        obtain ⟨e4, h4⟩ := hs es[k4]? (by simp)
        rw [h1, h2, h3, h4] at hX
        obtain ⟨d1, d2, d3, d4, p1, p2, p3, p4, p5⟩ := rf_kp_spec hE hi h0 he hx.1 hx.2.2.2.1 hk h1 h2 h3 h4 hX at'
        refine ⟨[nv, sv, mv, tv, dv], hx, ?_⟩
        dsimp only [List.map]
        rw [p1, p2, p3, p4]
        exact p5
    next => cases hk
/-- may a value of this picture be laid into a field of this type -/
def rf_fty (E : rf_EV) (ty : FieldType) (a : rf_AV) : Bool := match ty with
  | .int => Nat.beq a.1 0
  | .long => Nat.beq a.1 1
  | .boolean => Nat.beq a.1 0 && (match rf_gi E a.2.1 with
    | some q => decide (0 ≤ q.1 + a.2.2) && decide (q.2.1 + a.2.2 ≤ 1)
    | none => false)
  | .object _ => Nat.beq a.1 2
  | .array _ => Nat.beq a.1 2
  | .byte => Nat.beq a.1 0 && (Nat.beq a.2.1 0 && decide (a.2.2 = 0))
  | _ => false
theorem rf_fty_spec {ρ : List Int} {ad : List Nat} {xt : Nat → Nat} {E : rf_EV} (hE : rf_okE ρ E) {ty : FieldType} {a : rf_AV} {v : Value} (h : rf_fty E ty a = true) (hv : rf_gv ρ ad xt a v) : narrow ty v = v ∧ fits ty v = true := by
  obtain ⟨t, g, d⟩ := a
  unfold rf_fty at h
  split at h
  · cases Nat.eq_of_beq_eq_true h
    obtain ⟨x, rfl, -⟩ := hv
    exact ⟨rfl, rfl⟩
  · cases Nat.eq_of_beq_eq_true h
    obtain ⟨x, rfl, -⟩ := hv
    exact ⟨rfl, rfl⟩
  · simp only [Bool.and_eq_true] at h
    cases Nat.eq_of_beq_eq_true h.1
    obtain ⟨x, rfl, r, hr, hx⟩ := hv
    have h2 := h.2
    split at h2
    next q hq =>
      simp only [Bool.and_eq_true, decide_eq_true_eq] at h2
      have i := rf_ivl hE hq hr
      dsimp only at h2 hx
      have hx01 : x.toInt = 0 ∨ x.toInt = 1 := by omega
      rcases hx01 with z | z
      · have : x = 0 := Int32.toInt_inj.mp (by rw [z]; rfl)
        subst this
        exact ⟨rfl, rfl⟩
      · have : x = 1 := Int32.toInt_inj.mp (by rw [z]; rfl)
        subst this
        exact ⟨rfl, rfl⟩
    next => cases h2
  · cases Nat.eq_of_beq_eq_true h
    obtain ⟨q, -, rfl⟩ := hv
    exact ⟨rfl, rfl⟩
  · cases Nat.eq_of_beq_eq_true h
    obtain ⟨q, -, rfl⟩ := hv
    exact ⟨rfl, rfl⟩
  · simp only [Bool.and_eq_true, decide_eq_true_eq] at h
    obtain ⟨h1, h2, h3⟩ := h
    have e1 := Nat.eq_of_beq_eq_true h1
    have e2 := Nat.eq_of_beq_eq_true h2
    try dsimp only at e1 e2 h3
    subst e1
    subst e2
    subst h3
    obtain ⟨x, rfl, r, hr, hx⟩ := hv
    cases hr
    have : x = 0 := Int32.toInt_inj.mp (by rw [hx]; rfl)
    subst this
    exact ⟨rfl, rfl⟩
  · cases h
section
variable {p : Program} {l : Launch} {e : Env} {R : Room} {s : State} {m : MethodId} {args : Array Value} {below : List Frame} {meth : Method} {c : Code} {Q : State → Prop}
variable {cc : ByteArray} {D : va_G} {cl : List vw_C} {tys : List (ClassId × FieldType)} {A : Nat → Prop} {H0 : Heap} {xt : Nat → Nat} {nL : Nat} {ρ0 : List Int × List Nat}
theorem rf_o_get (hx : p.tables.exec = Jvm.exec) (hb : c.code = cc) {own : String} {Ts : List Cond} {ct : List (Nat → FieldType)} (hts : ∀ w ∈ Ts, w.before args s = true) (hcl : rf_CL cl ct Ts) (hown : s.vm.findClass own = some m.cls) (hK : va_K D cl tys s) {FL : List (Nat × Nat × Nat)} (hFL : rf_FLok own cl FL args s)
    {pc idx q ci k b : Nat} {dd : Int} {iv : Int × Int} {avs : List rf_AV} {a : rf_AV} {E : rf_EV} {L : rf_LC} {st : List rf_AV} {w : List rf_AC} {nn : rf_T} (hq : (idx, ci, k) ∈ FL) (hw0 : w[q]? = some (0, ci, b, iv, avs)) (ha : avs[k]? = some a) (hd : decode cc pc = .ok (.getfield idx, 3))
    (kk : rf_G p l e R s m args below meth c Q D cl tys A H0 xt nL ρ0 (pc + 3) (E, L, a :: st, w, nn)) : rf_G p l e R s m args below meth c Q D cl tys A H0 xt nL ρ0 pc (E, L, (2, q, dd) :: st, w, nn) := by
  intro ρ ad ws H locs ls stc h
  have hs := h.2.2.2.2.2.2
  match stc, h, hs with
  | v :: stc, h, hs =>
    obtain ⟨h0, hE, had, hw, hh, hl, -⟩ := h
    obtain ⟨a0, e, h1, h2, fs, rfl, h3⟩ := rf_ws_at hw had hw0
    obtain ⟨a1, h4, rfl⟩ := rf_gv_ref hs.1
    rw [h2] at h4
    cases h4
    obtain ⟨v, h5, h6⟩ := rf_L_get h3 ha
    obtain ⟨C, T, N, c1, c2, c3, c4⟩ := hFL _ hq
    obtain ⟨ty, -, t2, t3, t4⟩ := hcl ci C T N c1
    refine va_get hx hb hts t4 hown hK hh.1 q h1 c1 k c2 c4 (fun x hx => by rw [← hx, c3]) h5 hd ?_
    exact kk ρ ad ws H locs ls _ ⟨h0, hE, had, hw, hh, hl, h6, hs.2⟩
/-- the world with the cell q's contents put anew -/
theorem rf_rel_set {E : rf_EV} {L : rf_LC} {st : List rf_AV} {w : List rf_AC} {fs fs' : List rf_FC} {nc ns : Nat} {ρ : List Int} {ad : List Nat} {ws : va_W} {H H1 : Heap} {locs locs1 : List Loc} {ls : Array Slot} {stc : List Value} {q a : Nat} {e e' : va_E} {ac' : rf_AC} {st2 : List rf_AV} {stc2 : List Value}
    (h : rf_Rel D cl tys A H0 xt nL ρ0 (E, L, st, w, fs, nc, ns) ρ ad ws H locs ls stc) (h1 : ws[q]? = some (a, e)) (hc : rf_cell ρ ad xt tys ac' e') (hP : va_P D cl (ws.set q (a, e')) H1) (hD : va_D A (ws.set q (a, e'))) (hS : va_S A H0 H1 locs1) (hf : rf_facts xt ρ ((ws.map Prod.snd).set q e') fs') (h2 : rf_L (rf_gv ρ ad xt) st2 stc2) :
    rf_Rel D cl tys A H0 xt nL ρ0 (E, L, st2, w.set q ac', fs', nc, ns) ρ ad (ws.set q (a, e')) H1 locs1 ls stc2 := by
  obtain ⟨h0, hE, had, hw, hh, hl, -⟩ := h
  refine ⟨h0, hE, by rw [rf_set_fst h1]; exact had, ?_, ⟨hP, hD, hS, by rw [rf_set_snd]; exact hf⟩, hl, h2⟩
  rw [rf_set_snd]
  exact rf_L_set hc hw q
theorem rf_o_put (hx : p.tables.exec = Jvm.exec) (hb : c.code = cc) {own : String} {Ts : List Cond} {ct : List (Nat → FieldType)} (hts : ∀ w ∈ Ts, w.before args s = true) (hcl : rf_CL cl ct Ts) (hown : s.vm.findClass own = some m.cls) (hK : va_K D cl tys s) {FL : List (Nat × Nat × Nat)} (hFL : rf_FLok own cl FL args s)
    {pc idx q ci k b : Nat} {dd : Int} {iv : Int × Int} {avs : List rf_AV} {a : rf_AV} {E : rf_EV} {L : rf_LC} {st : List rf_AV} {w : List rf_AC} {fs : List rf_FC} {nc ns : Nat} {ty : Nat → FieldType} {C0 : String} {T0 : u_T} {N0 : Nat} (hq : (idx, ci, k) ∈ FL) (hw0 : w[q]? = some (0, ci, b, iv, avs)) (hlen : k < avs.length) (hct : ct[ci]? = some ty) (hty : rf_fty E (ty k) a = true) (hc0 : cl[ci]? = some (C0, T0, N0)) (hfin : (T0 k).2.2.2 = false ∨ (meth.name = "<init>" ∧ C0 = own)) (hd : decode cc pc = .ok (.putfield idx, 3))
    (kk : rf_G p l e R s m args below meth c Q D cl tys A H0 xt nL ρ0 (pc + 3) (E, L, st, w.set q (0, ci, b, iv, avs.set k a), rf_drop q fs, nc, ns)) : rf_G p l e R s m args below meth c Q D cl tys A H0 xt nL ρ0 pc (E, L, a :: (2, q, dd) :: st, w, fs, nc, ns) := by
  intro ρ ad ws H locs ls stc h
  have hs := h.2.2.2.2.2.2
  match stc, h, hs with
  | v :: v2 :: stc, h, hs =>
    have h' := h
    obtain ⟨h0, hE, had, hw, hh, hl, -⟩ := h
    obtain ⟨a0, e, h1, h2, fv, rfl, h3⟩ := rf_ws_at hw had hw0
    obtain ⟨a1, h4, rfl⟩ := rf_gv_ref hs.2.1
    rw [h2] at h4
    cases h4
    obtain ⟨C, T, N, c1, c2, c3, c4⟩ := hFL _ hq
    rw [c1] at hc0
    cases hc0
    obtain ⟨ty', t1, t2, t3, t4⟩ := hcl ci C0 T0 N0 c1
    rw [hct] at t1
    cases t1
    obtain ⟨n1, n2⟩ := rf_fty_spec hE hty hs.1
    have hl2 : k < fv.length := by rw [← rf_L_len h3]; exact hlen
    have go : ∀ (H1 : Heap) (locs1 : List Loc), va_P D cl (ws.set q (a0, .inr (ci, fv.set k v))) H1 → va_D A (ws.set q (a0, .inr (ci, fv.set k v))) → va_S A H0 H1 locs1 → W p l e R s m args below meth c H1 locs1 nc ns Q (F0 m (pc + 3) ls stc) := fun H1 locs1 hP hD hS =>
      kk ρ ad _ H1 locs1 ls stc (rf_rel_set h' h1 (ac' := (0, ci, b, iv, avs.set k a)) ⟨_, rfl, rf_L_set hs.1 h3 k⟩ hP hD hS (rf_facts_drop hh.2.2.2) hs.2.2)
    rcases hfin with hfin | ⟨hi1, hi2⟩
    · exact va_put hx hb hts t4 ty t2 t3 hown hK hh.1 hh.2.1 hh.2.2.1 q h1 c1 k c2 c4 (fun x hx => by rw [← hx, c3]) hfin (t2 k c2) n1 n2 hl2 hd go
    · cases hf : (T0 k).2.2.2 with
      | false => exact va_put hx hb hts t4 ty t2 t3 hown hK hh.1 hh.2.1 hh.2.2.1 q h1 c1 k c2 c4 (fun x hx => by rw [← hx, c3]) hf (t2 k c2) n1 n2 hl2 hd go
      | true => exact va_putF hx hb hts t4 ty t2 t3 hown hK hh.1 hh.2.1 hh.2.2.1 q h1 c1 k c2 c4 (fun x hx => by rw [← hx, c3]) hf hi1 (by rw [c3]; exact hi2) (t2 k c2) n1 n2 hl2 hd go
end
