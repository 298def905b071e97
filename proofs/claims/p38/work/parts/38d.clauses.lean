/-! CLAUSES: rules told as data, each proved for itself over numbers and rows; a number of a clause is one of its numbers and an offset (0: nought) -/
abbrev hc_N : Type := Nat × Int
abbrev hc_F : Type := Nat × List Nat × List hc_N
abbrev hc_A : Type := List (Int × Int) × List hc_F × List (hc_N × hc_N)
/-- how many numbers; facts and 'at most' that must be told; what then holds: one of these: new numbers within bounds, facts, 'at most' -/
abbrev hc_C : Type := Nat × List hc_F × List (hc_N × hc_N) × List hc_A
def hc_v (xs : List Int) (t : hc_N) : Int := (match t.1 with
  | 0 => 0
  | n + 1 => (xs[n]?).getD 0) + t.2
def hc_h (xt : Nat → Nat) (en : Nat → Option va_E) (xs : List Int) (f : hc_F) : Prop := rf_XP xt f.1 (f.2.1.map en) (f.2.2.map (hc_v xs))
def hc_ok (c : hc_C) : Prop := ∀ (xt : Nat → Nat) (en : Nat → Option va_E) (xs : List Int), xs.length = c.1 → (∀ f ∈ c.2.1, hc_h xt en xs f) → (∀ p ∈ c.2.2.1, hc_v xs p.1 ≤ hc_v xs p.2) →
  ∃ a ∈ c.2.2.2, ∃ ys : List Int, rf_L (fun (r : Int × Int) (y : Int) => r.1 ≤ y ∧ y ≤ r.2) a.1 ys ∧ (∀ f ∈ a.2.1, hc_h xt en (xs ++ ys) f) ∧ ∀ p ∈ a.2.2, hc_v (xs ++ ys) p.1 ≤ hc_v (xs ++ ys) p.2
def hc_s (nums : List rf_AV) (t : hc_N) : Option rf_AV := match t.1 with
  | 0 => some (0, 0, t.2)
  | n + 1 => (match nums[n]? with
    | some a => some (0, a.2.1, a.2.2 + t.2)
    | none => none)
theorem hc_s_num {ρ : List Int} {nums : List rf_AV} {xs : List Int} {t : hc_N} {a : rf_AV} (hx : rf_L (rf_num ρ) nums xs) (h : hc_s nums t = some a) : rf_num ρ a (hc_v xs t) := by
  obtain ⟨n, d⟩ := t
  cases n with
  | zero =>
    cases h
    exact ⟨0, rfl, rfl⟩
  | succ n =>
    have h' : (match nums[n]? with
      | some a => some ((0, a.2.1, a.2.2 + d) : rf_AV)
      | none => none) = some a := h
    cases hn : nums[n]? with
    | none => rw [hn] at h'; cases h'
    | some b =>
      rw [hn] at h'
      cases h'
      obtain ⟨x, x1, x2⟩ := rf_L_get hx hn
      have e : hc_v xs (n + 1, d) = x + d := by
        show (xs[n]?).getD 0 + d = x + d
        rw [x1]
        rfl
      rw [e]
      exact rf_num_add x2
def hc_en (cs : List Nat) (es : List va_E) (k : Nat) : Option va_E := match cs[k]? with
  | some q => es[q]?
  | none => none
theorem hc_om_map {α β γ : Type} {f : α → Option β} {v : α → γ} {R : β → γ → Prop} (h : ∀ a b, f a = some b → R b (v a)) : ∀ {l : List α} {bs : List β}, rf_om f l = some bs → rf_L R bs (l.map v)
  | [], bs, e => by cases e; trivial
  | a :: l, bs, e => by
    unfold rf_om at e
    split at e
    next b r hb hr =>
      cases e
      exact ⟨h a b hb, hc_om_map h hr⟩
    next => cases e
theorem hc_om_get {cs : List Nat} {es : List va_E} : ∀ {l ks : List Nat}, rf_om (fun k => cs[k]?) l = some ks → ks.map (fun q => es[q]?) = l.map (hc_en cs es)
  | [], ks, e => by cases e; rfl
  | k :: l, ks, e => by
    unfold rf_om at e
    split at e
    next b r hb hr =>
      cases e
      simp only [List.map_cons]
      rw [hc_om_get hr]
      congr 1
      unfold hc_en
      rw [hb]
    next => cases e
def hc_f (cs : List Nat) (nums : List rf_AV) (f : hc_F) : Option rf_FC := match rf_om (fun k => cs[k]?) f.2.1, rf_om (hc_s nums) f.2.2 with
  | some ks, some as => some (f.1, ks, as)
  | _, _ => none
theorem hc_f_at {ρ : List Int} {cs : List Nat} {es : List va_E} {nums : List rf_AV} {xs : List Int} {f : hc_F} {g : rf_FC} (hx : rf_L (rf_num ρ) nums xs) (h : hc_f cs nums f = some g) : g.1 = f.1 ∧ g.2.1.map (fun q => es[q]?) = f.2.1.map (hc_en cs es) ∧ rf_L (rf_num ρ) g.2.2 (f.2.2.map (hc_v xs)) := by
  unfold hc_f at h
  split at h
  next ks as hk ha =>
    cases h
    exact ⟨rfl, hc_om_get hk, hc_om_map (fun a b e => hc_s_num hx e) ha⟩
  next => cases h
theorem hc_f_fact {xt : Nat → Nat} {ρ : List Int} {cs : List Nat} {es : List va_E} {nums : List rf_AV} {xs : List Int} {f : hc_F} {g : rf_FC} (hx : rf_L (rf_num ρ) nums xs) (h : hc_f cs nums f = some g) (hh : hc_h xt (hc_en cs es) xs f) : rf_fact xt ρ es g := by
  obtain ⟨h1, h2, h3⟩ := hc_f_at (es := es) hx h
  refine ⟨_, h3, ?_⟩
  rw [h1, h2]
  exact hh
def hc_has (E : rf_EV) (fs : List rf_FC) (f : rf_FC) : Bool := fs.any (fun g => Nat.beq f.1 g.1 && (rf_all2 Nat.beq f.2.1 g.2.1 && rf_all2 (fun a b => rf_same E a.2.1 a.2.2 b.2.1 b.2.2) f.2.2 g.2.2))
theorem hc_has_h {xt : Nat → Nat} {ρ : List Int} {E : rf_EV} {fs : List rf_FC} {cs : List Nat} {es : List va_E} {nums : List rf_AV} {xs : List Int} {f : hc_F} {g : rf_FC} (hE : rf_okE ρ E) (hf : rf_facts xt ρ es fs) (hx : rf_L (rf_num ρ) nums xs) (h : hc_f cs nums f = some g) (hh : hc_has E fs g = true) : hc_h xt (hc_en cs es) xs f := by
  obtain ⟨h1, h2, h3⟩ := hc_f_at (es := es) hx h
  obtain ⟨g', g1, g2⟩ := List.any_eq_true.mp hh
  simp only [Bool.and_eq_true] at g2
  obtain ⟨ys, y1, y2⟩ := hf g' g1
  have e1 := Nat.eq_of_beq_eq_true g2.1
  have e2 := rf_all2_eq (fun a b => Nat.eq_of_beq_eq_true) g2.2.1
  have e3 := rf_sames hE g2.2.2 h3 y1
  unfold hc_h
  rw [e3, ← h2, ← h1, e1, e2]
  exact y2
def hc_add : rf_EV → List (rf_AV × rf_AV) → Option rf_EV
  | E, [] => some E
  | E, p :: l => match rf_addc E p.1.2.1 p.2.2.1 (p.2.2.2 - p.1.2.2) with
    | some E' => hc_add E' l
    | none => none
theorem hc_add_spec {ρ : List Int} : ∀ {l : List (rf_AV × rf_AV)} {E : rf_EV}, rf_okE ρ E → (∀ p ∈ l, ∃ a b, rf_num ρ p.1 a ∧ rf_num ρ p.2 b ∧ a ≤ b) → ∃ E', hc_add E l = some E' ∧ rf_okE ρ E'
  | [], E, hE, _ => ⟨E, rfl, hE⟩
  | p :: l, E, hE, h => by
    obtain ⟨a, b, ⟨r, r1, r2⟩, ⟨q, q1, q2⟩, hab⟩ := h p List.mem_cons_self
    obtain ⟨E1, e1, k1⟩ := rf_addc_spec hE r1 q1 (d := p.2.2.2 - p.1.2.2) (by omega)
    obtain ⟨E2, e2, k2⟩ := hc_add_spec k1 (fun z hz => h z (List.mem_cons_of_mem _ hz))
    exact ⟨E2, by simp only [hc_add, e1]; exact e2, k2⟩
def hc_fr (n k : Nat) : List rf_AV := (rf_rg (n + 1) k).map (fun j => (0, j, 0))
theorem hc_fr_num {ρ ys : List Int} {n : Nat} (hn : ρ.length = n) : rf_L (rf_num (ρ ++ ys)) (hc_fr n ys.length) ys := by
  refine rf_L_of (by simp [hc_fr, rf_rg_len]) (fun i q r h1 h2 => ?_)
  unfold hc_fr at h1
  rw [List.getElem?_map] at h1
  cases hj : (rf_rg (n + 1) ys.length)[i]? with
  | none => rw [hj] at h1; cases h1
  | some z =>
    rw [hj] at h1
    cases h1
    obtain ⟨rfl, h4⟩ := rf_rg_at hj
    refine ⟨r, ?_, by dsimp only; omega⟩
    show rf_r (ρ ++ ys) (n + 1 + i) = some r
    rw [show n + 1 + i = (n + i) + 1 by omega]
    show (ρ ++ ys)[n + i]? = some r
    rw [List.getElem?_append_right (by omega), hn, Nat.add_sub_cancel_left]
    exact h2
def hc_pr (nums : List rf_AV) (p : hc_N × hc_N) : Option (rf_AV × rf_AV) := match hc_s nums p.1, hc_s nums p.2 with
  | some a, some b => some (a, b)
  | _, _ => none
def hc_alt (z : rf_ES) (cs : List Nat) (nums : List rf_AV) (a : hc_A) : Option (Option rf_ES) := match rf_om (hc_f cs (nums ++ hc_fr z.1.1.length a.1.length)) a.2.1, rf_om (hc_pr (nums ++ hc_fr z.1.1.length a.1.length)) a.2.2 with
  | some fs, some ls => (match hc_add (z.1.1 ++ a.1.map (fun r => (r.1, r.2, false)), z.1.2) ls with
    | some E => some (some (E, fs ++ z.2))
    | none => some none)
  | _, _ => none
theorem hc_alt_spec {xt : Nat → Nat} {ρ ys : List Int} {cs : List Nat} {es : List va_E} {nums : List rf_AV} {xs : List Int} {z : rf_ES} {a : hc_A} {o : Option rf_ES} (hz : rf_OKR xt ρ es z) (hx : rf_L (rf_num ρ) nums xs) (hy : rf_L (fun (r : Int × Int) (y : Int) => r.1 ≤ y ∧ y ≤ r.2) a.1 ys) (hf : ∀ f ∈ a.2.1, hc_h xt (hc_en cs es) (xs ++ ys) f) (hp : ∀ p ∈ a.2.2, hc_v (xs ++ ys) p.1 ≤ hc_v (xs ++ ys) p.2) (h : hc_alt z cs nums a = some o) : ∃ z', o = some z' ∧ rf_OKR xt (ρ ++ ys) es z' := by
  have hlen : a.1.length = ys.length := rf_L_len hy
  have hnum : rf_L (rf_num (ρ ++ ys)) (nums ++ hc_fr z.1.1.length a.1.length) (xs ++ ys) := by
    refine rf_L_app (rf_L_mono (fun _ _ k => rf_num_app k) hx) ?_
    rw [hlen]
    exact hc_fr_num hz.1.2.1
  have hE : rf_okE (ρ ++ ys) (z.1.1 ++ a.1.map (fun r => (r.1, r.2, false)), z.1.2) := rf_okE_news hz.1 (by rw [List.length_map, hlen]) (fun i b hb => by
    rw [List.getElem?_map] at hb
    cases hi : a.1[i]? with
    | none => rw [hi] at hb; cases hb
    | some r =>
      rw [hi] at hb
      cases hb
      obtain ⟨y, y1, y2, y3⟩ := rf_L_get hy hi
      exact ⟨y, y1, y2, y3, fun z => by cases z⟩)
  unfold hc_alt at h
  split at h
  next fs ls hfs hls =>
    obtain ⟨E', e1, e2⟩ := hc_add_spec (l := ls) hE (fun p hpl => by
      obtain ⟨i, hi⟩ := List.getElem?_of_mem hpl
      obtain ⟨t, t1, t2⟩ := (rf_om_at hls).2 i p hi
      unfold hc_pr at t2
      split at t2
      next u v hu hv =>
        cases t2
        exact ⟨_, _, hc_s_num hnum hu, hc_s_num hnum hv, hp t (List.mem_of_getElem? t1)⟩
      next => cases t2)
    rw [e1] at h
    dsimp only at h
    cases h
    refine ⟨_, rfl, e2, fun f hf' => ?_⟩
    rcases List.mem_append.mp hf' with hf' | hf'
    · obtain ⟨i, hi⟩ := List.getElem?_of_mem hf'
      obtain ⟨t, t1, t2⟩ := (rf_om_at hfs).2 i f hi
      exact hc_f_fact hnum t2 (hf t (List.mem_of_getElem? t1))
    · exact rf_facts_app hz.2 f hf'
  next => cases h
def hc_inf (c : hc_C) (cs : List Nat) (nums : List rf_AV) (z : rf_ES) : List rf_ES := if Nat.beq nums.length c.1 && (nums.all (fun a => (rf_gi z.1 a.2.1).isSome) && (c.2.1.all (fun f => match hc_f cs nums f with
    | some g => hc_has z.1 z.2 g
    | none => false) && c.2.2.1.all (fun p => match hc_s nums p.1, hc_s nums p.2 with
    | some a, some b => rf_leq z.1 a b
    | _, _ => false))) then (match rf_om (hc_alt z cs nums) c.2.2.2 with
    | some l => l.filterMap (fun o => o)
    | none => [z]) else [z]
theorem hc_nums {ρ : List Int} {E : rf_EV} (hE : rf_okE ρ E) : ∀ {nums : List rf_AV}, nums.all (fun a => (rf_gi E a.2.1).isSome) = true → ∃ xs, rf_L (rf_num ρ) nums xs
  | [], _ => ⟨[], trivial⟩
  | a :: nums, h => by
    simp only [List.all_cons, Bool.and_eq_true] at h
    obtain ⟨xs, hxs⟩ := hc_nums hE h.2
    obtain ⟨q, hq⟩ := Option.isSome_iff_exists.mp h.1
    obtain ⟨r, r1, -⟩ := rf_gi_spec hE hq
    exact ⟨(r + a.2.2) :: xs, ⟨r, r1, rfl⟩, hxs⟩
theorem hc_inf_s {c : hc_C} {cs : List Nat} {nums : List rf_AV} {z : rf_ES} (hc : hc_ok c) : rf_snd z (hc_inf c cs nums z) := by
  unfold hc_inf
  split
  next h =>
    simp only [Bool.and_eq_true] at h
    obtain ⟨h1, h2, h3, h4⟩ := h
    split
    next l hl =>
      intro xt ρ es hz
      obtain ⟨xs, hx⟩ := hc_nums hz.1 h2
      obtain ⟨a, a1, ys, y1, y2, y3⟩ := hc xt (hc_en cs es) xs (by rw [← rf_L_len hx]; exact Nat.eq_of_beq_eq_true h1) (fun f hf => by
        have k := List.all_eq_true.mp h3 f hf
        split at k
        next g hg => exact hc_has_h hz.1 hz.2 hx hg k
        next => cases k) (fun p hp => by
        have k := List.all_eq_true.mp h4 p hp
        split at k
        next u v hu hv => exact rf_leq_spec hz.1 (hc_s_num hx hu) (hc_s_num hx hv) k
        next => cases k)
      obtain ⟨i, hi⟩ := List.getElem?_of_mem a1
      have hli : i < l.length := by rw [← (rf_om_at hl).1]; exact (List.getElem?_eq_some_iff.mp hi).1
      obtain ⟨b, b1, b2⟩ := (rf_om_at hl).2 i l[i] (List.getElem?_eq_getElem hli)
      rw [hi] at b1
      cases b1
      obtain ⟨z', z1, z2⟩ := hc_alt_spec hz hx y1 y2 y3 b2
      exact ⟨z', List.mem_filterMap.mpr ⟨l[i], List.getElem_mem hli, z1⟩, ys, z2⟩
    next => exact rf_snd_self
  next => exact rf_snd_self
