/-! THE CHECKER, longs; what is made; the library -/
def rf_in64 (lo hi : Int) : Bool := decide (-9223372036854775808 ≤ lo) && decide (hi ≤ 9223372036854775807)
theorem rf_bm64 {z : Int} (h1 : -9223372036854775808 ≤ z) (h2 : z ≤ 9223372036854775807) : z.bmod (2 ^ 64) = z := Int.bmod_eq_of_le (by omega) (by omega)
def rf_ladd (E : rf_EV) (a b : rf_AV) : Option (rf_EV × rf_AV) := match rf_gi E a.2.1, rf_gi E b.2.1 with
  | some q, some q' => if rf_in64 (q.1 + a.2.2 + (q'.1 + b.2.2)) (q.2.1 + a.2.2 + (q'.2.1 + b.2.2)) then
      (if Nat.beq b.2.1 0 then some (E, (1, a.2.1, a.2.2 + b.2.2)) else if Nat.beq a.2.1 0 then some (E, (1, b.2.1, a.2.2 + b.2.2)) else some (rf_fr E 1 (q.1 + a.2.2 + (q'.1 + b.2.2)) (q.2.1 + a.2.2 + (q'.2.1 + b.2.2))))
    else some (rf_ltop E)
  | _, _ => none
theorem rf_ladd_spec {ρ : List Int} {ad : List Nat} {xt : Nat → Nat} {E : rf_EV} (hE : rf_okE ρ E) {g h : Nat} {d e : Int} {w : rf_EV × rf_AV} {x y : Int64} (hx : rf_gv ρ ad xt (1, g, d) (.long x)) (hy : rf_gv ρ ad xt (1, h, e) (.long y)) (hw : rf_ladd E (1, g, d) (1, h, e) = some w) : rf_res ρ ad xt w (.long (x + y)) := by
  obtain ⟨x', ex, r, hr, hxr⟩ := hx
  cases ex
  obtain ⟨y', ey, r', hr', hyr⟩ := hy
  cases ey
  dsimp only at hxr hyr hr hr'
  unfold rf_ladd at hw
  split at hw
  next q q' hq hq' =>
    have i1 := rf_ivl hE hq hr
    have i2 := rf_ivl hE hq' hr'
    dsimp only at hw
    split at hw
    next hi =>
      simp only [rf_in64, Bool.and_eq_true, decide_eq_true_eq] at hi
      have hsum : (x + y).toInt = x.toInt + y.toInt := by
        rw [Int64.toInt_add]
        exact rf_bm64 (by omega) (by omega)
      split at hw
      next h0 =>
        cases hw
        have := rf_r0 h0 hr'
        exact rf_res_same hE ⟨x + y, rfl, r, hr, by rw [hsum]; dsimp only; omega⟩
      next =>
        split at hw
        next h0 =>
          cases hw
          have := rf_r0 h0 hr
          exact rf_res_same hE ⟨x + y, rfl, r', hr', by rw [hsum]; dsimp only; omega⟩
        next =>
          cases hw
          exact rf_fr_long hE (by rw [hsum]; omega) (by rw [hsum]; omega)
    next =>
      cases hw
      exact rf_ltop_long hE _
  next => cases hw
/-- a long's remainder by a number that is told; its quotient -/
def rf_lrem (E : rf_EV) (a b : rf_AV) : Option (rf_EV × rf_AV) := match rf_gi E a.2.1, rf_gi E b.2.1 with
  | some q, some q' => if q'.1 = q'.2.1 then (if q'.1 + b.2.2 = 0 then none else if q.1 = q.2.1 then some (E, (1, 0, (q.1 + a.2.2).tmod (q'.1 + b.2.2))) else if 1 ≤ q'.1 + b.2.2 then some (rf_fr E 1 (1 - (q'.1 + b.2.2)) (q'.1 + b.2.2 - 1)) else none) else none
  | _, _ => none
def rf_ldiv (E : rf_EV) (_ b : rf_AV) : Option (rf_EV × rf_AV) := match rf_gi E b.2.1 with
  | some q' => if rf_nz q' b.2.2 then some (rf_ltop E) else none
  | none => none
theorem rf_ne_long {x : Int64} (h : x.toInt ≠ 0) : ¬ x = 0 := by
  intro z
  subst z
  exact h rfl
theorem rf_lrem_spec {ρ : List Int} {ad : List Nat} {xt : Nat → Nat} {E : rf_EV} (hE : rf_okE ρ E) {g h : Nat} {d e : Int} {w : rf_EV × rf_AV} {x y : Int64} (hx : rf_gv ρ ad xt (1, g, d) (.long x)) (hy : rf_gv ρ ad xt (1, h, e) (.long y)) (hw : rf_lrem E (1, g, d) (1, h, e) = some w) : ¬ y = 0 ∧ rf_res ρ ad xt w (.long (x - x / y * y)) := by
  obtain ⟨x', ex, r, hr, hxr⟩ := hx
  cases ex
  obtain ⟨y', ey, r', hr', hyr⟩ := hy
  cases ey
  dsimp only at hxr hyr hr hr'
  have hrem : (x - x / y * y).toInt = x.toInt.tmod y.toInt := by
    have a := (x % y).toInt_lt
    have b := (x % y).le_toInt
    rw [Int64.toInt_mod] at a b
    rw [Int64.toInt_sub, Int64.toInt_mul, Int64.toInt_div, Int.bmod_mul_bmod, Int.sub_bmod_bmod, Int.mul_comm, ← Int.tmod_def]
    exact rf_bm64 (by omega) (by omega)
  unfold rf_lrem at hw
  split at hw
  next q q' hq hq' =>
    have i1 := rf_ivl hE hq hr
    have i2 := rf_ivl hE hq' hr'
    dsimp only at hw
    split at hw
    next h1 =>
      have ey : y.toInt = q'.1 + e := by omega
      split at hw
      next => cases hw
      next hne =>
        refine ⟨rf_ne_long (by rw [ey]; exact hne), ?_⟩
        split at hw
        next h2 =>
          cases hw
          have ex : x.toInt = q.1 + d := by omega
          exact rf_res_same hE ⟨_, rfl, 0, rfl, by rw [hrem, ex, ey]; exact (Int.zero_add _).symm⟩
        next =>
          split at hw
          next h3 =>
            cases hw
            have hb := tmod_bounds (a := x.toInt) (M := y.toInt) (by omega)
            refine rf_fr_long hE ?_ ?_
            · rw [hrem]; omega
            · rw [hrem]; omega
          next => cases hw
    next => cases hw
  next => cases hw
theorem rf_ldiv_spec {ρ : List Int} {ad : List Nat} {xt : Nat → Nat} {E : rf_EV} (hE : rf_okE ρ E) {g h : Nat} {d e : Int} {w : rf_EV × rf_AV} {y : Int64} (hy : rf_gv ρ ad xt (1, h, e) (.long y)) (hw : rf_ldiv E (1, g, d) (1, h, e) = some w) : ¬ y = 0 ∧ ∀ z : Int64, rf_res ρ ad xt w (.long z) := by
  obtain ⟨y', ey, r', hr', hyr⟩ := hy
  cases ey
  dsimp only at hyr hr'
  unfold rf_ldiv at hw
  split at hw
  next q' hq' =>
    split at hw
    next hn =>
      cases hw
      exact ⟨rf_ne_long (by rw [hyr]; exact rf_nz_spec hE hq' hr' hn), fun z => rf_ltop_long hE z⟩
    next => cases hw
  next => cases hw
def rf_dv (ty : FieldType) : rf_AV := match ty with
  | .byte => (0, 0, 0)
  | .char => (0, 0, 0)
  | .short => (0, 0, 0)
  | .boolean => (0, 0, 0)
  | .int => (0, 0, 0)
  | .long => (1, 0, 0)
  | .object _ => (3, 0, 0)
  | .array _ => (3, 0, 0)
  | _ => (9, 0, 0)
theorem rf_dv_spec {ρ : List Int} {ad : List Nat} {xt : Nat → Nat} {ty : FieldType} (h : Nat.beq (rf_dv ty).1 9 = false) : rf_gv ρ ad xt (rf_dv ty) (defaultValue ty) := by
  cases ty <;> first
    | exact ⟨0, rfl, 0, rfl, rfl⟩
    | exact rfl
    | (simp [rf_dv] at h; done)
/-- a class file's entries of classes that are made; of methods of the library -/
def rf_NLok (own : String) (cl : List vw_C) (NL : List (Nat × Nat)) (args : Array Value) (s : State) : Prop := ∀ q ∈ NL, ∃ (C : String) (T : u_T) (N : Nat), cl[q.2]? = some (C, T, N) ∧ (Cond.classLink own q.1 C).before args s = true ∧ (Cond.instantiable C N).before args s = true ∧ (Cond.initialized C).before args s = true
def rf_dvs (ty : Nat → FieldType) (N : Nat) : List rf_AV := (List.range N).map (fun j => rf_dv (ty j))
theorem rf_dvs_spec {ρ : List Int} {ad : List Nat} {xt : Nat → Nat} {ty : Nat → FieldType} {N : Nat} (h : (rf_dvs ty N).all (fun a => !(Nat.beq a.1 9)) = true) : rf_L (rf_gv ρ ad xt) (rf_dvs ty N) ((List.range N).map (fun j => defaultValue (ty j))) := by
  refine rf_L_of (by simp [rf_dvs]) (fun i a b h1 h2 => ?_)
  have hm := List.all_eq_true.mp h a (List.mem_of_getElem? h1)
  simp only [rf_dvs, List.getElem?_map] at h1
  rw [List.getElem?_map] at h2
  cases hi : (List.range N)[i]? with
  | none => rw [hi] at h1; cases h1
  | some k =>
    rw [hi] at h1 h2
    cases h1
    cases h2
    exact rf_dv_spec (by simpa using hm)
def rf_akd (t : ArrayType) : Nat := match t with
  | .int => 0
  | .long => 1
  | .byte => 2
  | .short => 3
  | _ => 9
section
variable {p : Program} {l : Launch} {e : Env} {R : Room} {s : State} {m : MethodId} {args : Array Value} {below : List Frame} {meth : Method} {c : Code} {Q : State → Prop}
variable {cc : ByteArray} {D : va_G} {cl : List vw_C} {tys : List (ClassId × FieldType)} {A : Nat → Prop} {H0 : Heap} {xt : Nat → Nat} {nL : Nat} {ρ0 : List Int × List Nat}
/-- one cell more -/
theorem rf_rel_more {E : rf_EV} {L : rf_LC} {st : List rf_AV} {w : List rf_AC} {fs : List rf_FC} {nc ns nc' ns' : Nat} {ρ : List Int} {ad : List Nat} {ws : va_W} {H H1 : Heap} {locs : List Loc} {ls : Array Slot} {stc : List Value} {q : Nat} {e' : va_E} {ac' : rf_AC} {st2 : List rf_AV} {stc2 : List Value}
    (h : rf_Rel D cl tys A H0 xt nL ρ0 (E, L, st, w, fs, nc, ns) ρ ad ws H locs ls stc) (hc : rf_cell ρ (ad ++ [q]) xt tys ac' e') (hP : va_P D cl (ws ++ [(q, e')]) H1) (hD : va_D A (ws ++ [(q, e')])) (hS : va_S A H0 H1 locs) (h2 : rf_L (rf_gv ρ ad xt) st2 stc2) :
    rf_Rel D cl tys A H0 xt nL ρ0 (E, L, (2, w.length, 0) :: st2, w ++ [ac'], fs, nc', ns') ρ (ad ++ [q]) (ws ++ [(q, e')]) H1 locs ls (.ref q :: stc2) := by
  obtain ⟨⟨h0, lz, hz⟩, hE, had, hw, hh, ⟨lv, hl1, hl2⟩, -⟩ := h
  have hlen : w.length = ad.length := by
    rw [rf_L_len hw, ← had, List.length_map, List.length_map]
  refine ⟨⟨h0, lz ++ [q], by rw [hz, List.append_assoc]⟩, hE, by rw [List.map_append, had]; rfl, ?_, ⟨hP, hD, hS, by rw [List.map_append]; exact rf_facts_more hh.2.2.2⟩, ⟨lv, hl1, rf_L_mono (fun _ _ k => ⟨k.1, rf_gv_ad k.2⟩) hl2⟩, ⟨q, ?_, rfl⟩, rf_L_mono (fun _ _ k => rf_gv_ad k) h2⟩
  · rw [List.map_append]
    exact rf_L_app (rf_L_mono (fun _ _ k => rf_cell_mono (fun _ _ z => rf_gv_ad z) k) hw) ⟨hc, trivial⟩
  · show (ad ++ [q])[w.length]? = some q
    rw [hlen, List.getElem?_append_right (Nat.le_refl _), Nat.sub_self]
    rfl
theorem rf_o_new {own : String} {Ts : List Cond} {ct : List (Nat → FieldType)} {NL : List (Nat × Nat)} {pc idx ci N0 : Nat} {C0 : String} {T0 : u_T} {ty : Nat → FieldType} {E : rf_EV} {L : rf_LC} {st : List rf_AV} {w : List rf_AC} {fs : List rf_FC} {nc ns : Nat} (hx : p.tables.exec = Jvm.exec) (hb : c.code = cc) (hts : ∀ w ∈ Ts, w.before args s = true) (hcl : rf_CL cl ct Ts) (hown : s.vm.findClass own = some m.cls) (hK : va_K D cl tys s) (hA : ∀ q, H0.size ≤ q → A q) (hNL : rf_NLok own cl NL args s)
    (hq : (idx, ci) ∈ NL) (hc0 : cl[ci]? = some (C0, T0, N0)) (hct : ct[ci]? = some ty) (hdv : (rf_dvs ty N0).all (fun a => !(Nat.beq a.1 9)) = true) (hr1 : nc + 1 ≤ R.cells) (hr2 : ns + N0 ≤ R.slots) (hd : decode cc pc = .ok (.new idx, 3))
    (kk : rf_G p l e R s m args below meth c Q D cl tys A H0 xt nL ρ0 (pc + 3) (E, L, (2, w.length, 0) :: st, w ++ [(0, ci, 0, (0, 0), rf_dvs ty N0)], fs, nc + 1, ns + N0)) : rf_G p l e R s m args below meth c Q D cl tys A H0 xt nL ρ0 pc (E, L, st, w, fs, nc, ns) := by
  intro ρ ad ws H locs ls stc h
  obtain ⟨-, hE, had, hw, hh, -, hs⟩ := id h
  obtain ⟨C, T, N, c1, c2, c3, c4⟩ := hNL _ hq
  rw [c1] at hc0
  cases hc0
  obtain ⟨ty', t1, t2, t3, t4⟩ := hcl ci C0 T0 N0 c1
  rw [hct] at t1
  cases t1
  refine va_new (fs := (List.range N0).map (fun j => defaultValue (ty j))) hx hb hts t4 ty t2 hown c2 c3 c4 hK hh.1 hh.2.1 hh.2.2.1 hA c1 (fun j hj => ?_) hr1 hr2 hd (fun q H1 hP hD hS => ?_)
  · simp [vp_V, hj]
  · exact kk ρ (ad ++ [q]) _ H1 locs ls _ (rf_rel_more (nc' := nc + 1) (ns' := ns + N0) h ⟨_, rfl, rf_dvs_spec hdv⟩ hP hD hS hs)
theorem rf_rel_z {E : rf_EV} {L : rf_LC} {st : List rf_AV} {w : List rf_AC} {c0 : rf_AC} {fs : List rf_FC} {nc ns : Nat} {ρ : List Int} {ad : List Nat} {ws : va_W} {q : Nat} {e0 : va_E} {H : Heap} {locs : List Loc} {ls : Array Slot} {stc : List Value}
    (h : rf_Rel D cl tys A H0 xt nL ρ0 (E, L, st, w ++ [c0], fs, nc, ns) ρ ad (ws ++ [(q, e0)]) H locs ls stc) (hl : w.length = ws.length) (hz : rf_ct e0 0) : rf_Rel D cl tys A H0 xt nL ρ0 (E, L, st, w ++ [c0], (30, [w.length], [(0, 0, 0)]) :: fs, nc, ns) ρ ad (ws ++ [(q, e0)]) H locs ls stc := by
  refine rf_rel_facts h ?_
  intro g hg
  rcases List.mem_cons.mp hg with rfl | hg
  · refine rf_m30 (e := e0) ?_ (ys := [0]) ⟨⟨0, rfl, rfl⟩, trivial⟩ hz
    rw [List.map_append, List.getElem?_append_right (by rw [List.length_map]; omega), List.length_map, hl, Nat.sub_self]
    rfl
  · exact h.2.2.2.2.1.2.2.2 g hg
theorem rf_o_newa {pc n kd : Nat} {at' : ArrayType} {a : rf_AV} {z : rf_GI} {ty : FieldType} {E : rf_EV} {L : rf_LC} {st : List rf_AV} {w : List rf_AC} {fs : List rf_FC} {nc ns : Nat} (hx : p.tables.exec = Jvm.exec) (hb : c.code = cc) (hK : va_K D cl tys s) (hA : ∀ q, H0.size ≤ q → A q) (harr : (Cond.arrayClass (newarray.typeOf at')).before args s = true)
    (hty : ∃ cA, tys[kd]? = some (cA, ty)) (hkd : (kd = 0 ∧ at' = .int ∧ ty = .int) ∨ (kd = 1 ∧ at' = .long ∧ ty = .long) ∨ (kd = 2 ∧ at' = .byte ∧ ty = .byte) ∨ (kd = 3 ∧ at' = .short ∧ ty = .short)) (ha : a.1 = 0) (hz : rf_gi E a.2.1 = some z) (hz1 : z.1 + a.2.2 = (n : Int)) (hz2 : z.2.1 + a.2.2 = (n : Int)) (hn : n ≤ 60000000) (hr1 : nc + 1 ≤ R.cells) (hr2 : ns + n ≤ R.slots) (hd : decode cc pc = .ok (.newarray at', 2))
    (kk : rf_G p l e R s m args below meth c Q D cl tys A H0 xt nL ρ0 (pc + 2) (E, L, (2, w.length, 0) :: st, w ++ [(1, kd, n, (0, 0), [])], (30, [w.length], [(0, 0, 0)]) :: fs, nc + 1, ns + n)) : rf_G p l e R s m args below meth c Q D cl tys A H0 xt nL ρ0 pc (E, L, a :: st, w, fs, nc, ns) := by
  intro ρ ad ws H locs ls stc h
  have hs := h.2.2.2.2.2.2
  match stc, h, hs with
  | v :: stc, h, hs =>
    obtain ⟨-, hE, had, hw, hh, -, -⟩ := id h
    obtain ⟨ta, ga, da⟩ := a
    cases ha
    obtain ⟨x, rfl, r, hr, hxr⟩ := rf_gv_int hs.1
    have iv := rf_ivl hE hz hr
    have hxn : x.toInt = n := by dsimp only at hz1 hz2; omega
    have hneg : ¬ x < 0 := by
      intro q
      have := Int32.lt_iff_toInt_lt.mp q
      rw [hxn] at this
      have h0 : (0 : Int32).toInt = 0 := rfl
      omega
    have hcl : x.toNatClampNeg = n := by show x.toInt.toNat = n; omega
    obtain ⟨cA0, hcA0⟩ := hty
    have same : ∀ (cA : ClassId), va_K D cl (tys ++ [(cA, ty)]) s → (∀ t, ty = t → va_RA s cA0 t → va_RA s cA t → cA = cA0) → cA = cA0 := by
      intro cA hK2 hh2
      have e1 := (hK.2 kd _ hcA0).2
      have e2 := (hK2.2 tys.length (cA, ty) (by rw [List.getElem?_append_right (Nat.le_refl _), Nat.sub_self]; rfl)).2
      exact hh2 ty rfl e1 e2
    rcases hkd with ⟨rfl, rfl, rfl⟩ | ⟨rfl, rfl, rfl⟩ | ⟨rfl, rfl, rfl⟩ | ⟨rfl, rfl, rfl⟩
    · refine va_newa (atype := .int) (a0 := (n, .inl (fun _ => 0))) hx hb harr rfl hK hh.1 hh.2.1 hh.2.2.1 hA (fun cA => rfl) hneg hcl (by show n * 4 ≤ _; omega) hr1 hr2 hd (fun q cA H1 hK2 hP hD hS => ?_)
      cases same cA hK2 (fun t ht e1 e2 => by subst ht; exact Option.some.inj (e2.symm.trans e1))
      exact kk ρ (ad ++ [q]) _ H1 locs ls _ (rf_rel_z (rf_rel_more (nc' := nc + 1) (ns' := ns + n) h ⟨cA0, _, hcA0, Or.inl ⟨by dsimp only; decide, _, rfl, fun j hj => ⟨Int.le_refl _, Int.le_refl _⟩⟩⟩ hP hD hS hs.2) (by rw [rf_L_len hw, List.length_map]) (fun j _ => (rf_dc_zero j).symm))
    · refine va_newa (atype := .long) (a0 := (n, .inr (.inl (fun _ => 0)))) hx hb harr rfl hK hh.1 hh.2.1 hh.2.2.1 hA (fun cA => rfl) hneg hcl (by show n * 8 ≤ _; omega) hr1 hr2 hd (fun q cA H1 hK2 hP hD hS => ?_)
      cases same cA hK2 (fun t ht e1 e2 => by subst ht; exact Option.some.inj (e2.symm.trans e1))
      exact kk ρ (ad ++ [q]) _ H1 locs ls _ (rf_rel_z (rf_rel_more (nc' := nc + 1) (ns' := ns + n) h ⟨cA0, _, hcA0, Or.inr ⟨rfl, _, rfl, fun j hj => ⟨Int.le_refl _, Int.le_refl _⟩⟩⟩ hP hD hS hs.2) (by rw [rf_L_len hw, List.length_map]) (fun j _ => (rf_dc_zero j).symm))
    · refine va_newa (atype := .byte) (a0 := (n, .inl (fun _ => 0))) hx hb harr rfl hK hh.1 hh.2.1 hh.2.2.1 hA (fun cA => rfl) hneg hcl (by show n * 1 ≤ _; omega) hr1 hr2 hd (fun q cA H1 hK2 hP hD hS => ?_)
      cases same cA hK2 (fun t ht e1 e2 => by subst ht; exact Option.some.inj (e2.symm.trans e1))
      exact kk ρ (ad ++ [q]) _ H1 locs ls _ (rf_rel_z (rf_rel_more (nc' := nc + 1) (ns' := ns + n) h ⟨cA0, _, hcA0, Or.inl ⟨by dsimp only; decide, _, rfl, fun j hj => ⟨Int.le_refl _, Int.le_refl _⟩⟩⟩ hP hD hS hs.2) (by rw [rf_L_len hw, List.length_map]) (fun j _ => (rf_dc_zero j).symm))
    · refine va_newa (atype := .short) (a0 := (n, .inl (fun _ => 0))) hx hb harr rfl hK hh.1 hh.2.1 hh.2.2.1 hA (fun cA => rfl) hneg hcl (by show n * 2 ≤ _; omega) hr1 hr2 hd (fun q cA H1 hK2 hP hD hS => ?_)
      cases same cA hK2 (fun t ht e1 e2 => by subst ht; exact Option.some.inj (e2.symm.trans e1))
      exact kk ρ (ad ++ [q]) _ H1 locs ls _ (rf_rel_z (rf_rel_more (nc' := nc + 1) (ns' := ns + n) h ⟨cA0, _, hcA0, Or.inl ⟨by dsimp only; decide, _, rfl, fun j hj => ⟨Int.le_refl _, Int.le_refl _⟩⟩⟩ hP hD hS hs.2) (by rw [rf_L_len hw, List.length_map]) (fun j _ => (rf_dc_zero j).symm))
theorem rf_o_anew {own CO : String} {pc n kd idx : Nat} {a : rf_AV} {z : rf_GI} {E : rf_EV} {L : rf_LC} {st : List rf_AV} {w : List rf_AC} {fs : List rf_FC} {nc ns : Nat} (hx : p.tables.exec = Jvm.exec) (hb : c.code = cc) (hown : s.vm.findClass own = some m.cls) (hcl : (Cond.classLink own idx CO).before args s = true) (hov : va_AO CO s) (hK : va_K D cl tys s) (hA : ∀ q, H0.size ≤ q → A q)
    (hty : ∃ cA, tys[kd]? = some (cA, .object CO)) (ha : a.1 = 0) (hz : rf_gi E a.2.1 = some z) (hz1 : z.1 + a.2.2 = (n : Int)) (hz2 : z.2.1 + a.2.2 = (n : Int)) (hn : n ≤ 60000000) (hr1 : nc + 1 ≤ R.cells) (hr2 : ns + n ≤ R.slots) (hd : decode cc pc = .ok (.anewarray idx, 3))
    (kk : rf_G p l e R s m args below meth c Q D cl tys A H0 xt nL ρ0 (pc + 3) (E, L, (2, w.length, 0) :: st, w ++ [(2, kd, 0, (0, 0), List.replicate n (3, 0, 0))], fs, nc + 1, ns + n)) : rf_G p l e R s m args below meth c Q D cl tys A H0 xt nL ρ0 pc (E, L, a :: st, w, fs, nc, ns) := by
  intro ρ ad ws H locs ls stc h
  have hs := h.2.2.2.2.2.2
  match stc, h, hs with
  | v :: stc, h, hs =>
    obtain ⟨-, hE, had, hw, hh, -, -⟩ := id h
    obtain ⟨ta, ga, da⟩ := a
    cases ha
    obtain ⟨x, rfl, r, hr, hxr⟩ := rf_gv_int hs.1
    have iv := rf_ivl hE hz hr
    have hxn : x.toInt = n := by dsimp only at hz1 hz2; omega
    have hneg : ¬ x < 0 := by
      intro q
      have := Int32.lt_iff_toInt_lt.mp q
      rw [hxn] at this
      have h0 : (0 : Int32).toInt = 0 := rfl
      omega
    have hcl0 : x.toNatClampNeg = n := by show x.toInt.toNat = n; omega
    obtain ⟨cA0, hcA0⟩ := hty
    refine va_newq hx hb hown hcl hov hK hh.1 hh.2.1 hh.2.2.1 hA hneg hcl0 (by omega) hr1 hr2 hd (fun q cA H1 hK2 hP hD hS => ?_)
    have e1 := (hK.2 kd _ hcA0).2
    have e2 := (hK2.2 tys.length (cA, .object CO) (by rw [List.getElem?_append_right (Nat.le_refl _), Nat.sub_self]; rfl)).2
    obtain ⟨_, _, -, -, -, e3⟩ := e1
    obtain ⟨_, _, -, -, -, e4⟩ := e2
    cases Option.some.inj (e4.symm.trans e3)
    refine kk ρ (ad ++ [q]) _ H1 locs ls _ (rf_rel_more (nc' := nc + 1) (ns' := ns + n) h ⟨cA0, _, hcA0, fun _ => none, by simp only [List.length_replicate], fun j a hj => ?_⟩ hP hD hS hs.2)
    have hm := List.mem_of_getElem? hj
    cases List.eq_of_mem_replicate hm
    exact rfl
/-- a reference into a row of them, at a told place -/
theorem rf_o_aast {pc q kd b j qk ci b2 N : Nat} {CO : String} {T : u_T} {dd d2 : Int} {iv iv2 : Int × Int} {avs avs2 : List rf_AV} {i : rf_AV} {z : rf_GI} {E : rf_EV} {L : rf_LC} {st : List rf_AV} {w : List rf_AC} {fs : List rf_FC} {nc ns : Nat} (hx : p.tables.exec = Jvm.exec) (hb : c.code = cc) (hK : va_K D cl tys s) (hty : ∀ (cA : ClassId) (ty' : FieldType), tys[kd]? = some (cA, ty') → ty' = .object CO) (hc : cl[ci]? = some (CO, T, N)) (hd : decode cc pc = .ok (.aastore, 1)) (hw0 : w[q]? = some (2, kd, b, iv, avs)) (hwk : w[qk]? = some (0, ci, b2, iv2, avs2)) (hi : rf_inb E i avs.length = true) (hz : rf_gi E i.2.1 = some z) (hj1 : z.1 + i.2.2 = (j : Int)) (hj2 : z.2.1 + i.2.2 = (j : Int))
    (kk : rf_G p l e R s m args below meth c Q D cl tys A H0 xt nL ρ0 (pc + 1) (E, L, st, w.set q (2, kd, b, iv, avs.set j (2, qk, d2)), rf_drop q fs, nc, ns)) : rf_G p l e R s m args below meth c Q D cl tys A H0 xt nL ρ0 pc (E, L, (2, qk, d2) :: i :: (2, q, dd) :: st, w, fs, nc, ns) := by
  intro ρ ad ws H locs ls stc h
  have hs := h.2.2.2.2.2.2
  match stc, h, hs with
  | v :: v1 :: v2 :: stc, h, hs =>
    obtain ⟨-, hE, had, hw, hh, -, -⟩ := id h
    obtain ⟨x, rfl, x1, x2, x3, x4, ⟨r, hr, hxr⟩, -⟩ := rf_inb_spec hE hi hs.2.1
    have hv := rf_ivl hE hz hr
    have hxj : x.toNatClampNeg = j := by rw [x4]; omega
    obtain ⟨a0, e0, h1, h2, cA, ty', t1, f, rfl, hf⟩ := rf_ws_at hw had hw0
    obtain ⟨a1, h4, rfl⟩ := rf_gv_ref hs.2.2.1
    rw [h2] at h4
    cases h4
    obtain ⟨a2, e2, h5, h6, fv, rfl, h7⟩ := rf_ws_at hw had hwk
    obtain ⟨a3, h8, rfl⟩ := rf_gv_ref hs.1
    rw [h6] at h8
    cases h8
    cases hty cA ty' t1
    refine va_astq (r := (CO, T, N)) hx hb hK hh.1 hh.2.1 hh.2.2.1 q kd qk ci h1 t1 h5 hc x1 hd (fun H1 locs1 hP hD hS => ?_)
    refine kk ρ ad _ H1 locs1 ls stc (rf_rel_set h h1 (ac' := (2, kd, b, iv, avs.set j (2, qk, d2))) ?_ hP hD hS (rf_facts_drop hh.2.2.2) hs.2.2.2)
    refine ⟨cA, _, t1, va_up f x.toNatClampNeg (some a2), by simp only [List.length_set], fun k a' hk => ?_⟩
    rw [hxj]
    by_cases hkj : k = j
    · subst hkj
      have hl : k < avs.length := by omega
      have hk' : (avs.set k (2, qk, d2))[k]? = some a' := hk
      rw [List.getElem?_set_self hl] at hk'
      cases hk'
      simp only [va_up, if_true]
      exact ⟨a2, h6, rfl⟩
    · have hk' : (avs.set j (2, qk, d2))[k]? = some a' := hk
      rw [List.getElem?_set_ne (Ne.symm hkj)] at hk'
      simp only [va_up, if_neg hkj]
      exact hf k a' hk'
/-- Object's own constructor -/
theorem rf_o_obj {own : String} {pc idx q : Nat} {dd : Int} {E : rf_EV} {L : rf_LC} {st : List rf_AV} {w : List rf_AC} {nn : rf_T} (hx : p.tables.exec = Jvm.exec) (hb : c.code = cc) (hml : c.maxLocals = nL) (hown : s.vm.findClass own = some m.cls) (hlink : (Cond.methodLink own idx Lib.objectInit).before args s = true) (hinst : (Cond.instanceMethod Lib.objectInit).before args s = true) (hcode : (Cond.code Lib.objectInit ⟨#[0xb1]⟩ 1 none).before args s = true)
    (hr1 : 1 ≤ R.frames) (hr2 : rf_cats st + 12 ≤ R.locals) (hd : decode cc pc = .ok (.invokespecial idx, 3)) (kk : rf_G p l e R s m args below meth c Q D cl tys A H0 xt nL ρ0 (pc + 3) (E, L, st, w, nn)) : rf_G p l e R s m args below meth c Q D cl tys A H0 xt nL ρ0 pc (E, L, (2, q, dd) :: st, w, nn) := by
  intro ρ ad ws H locs ls stc h
  have hs := h.2.2.2.2.2.2
  match stc, h, hs with
  | v :: stc, h, hs =>
    obtain ⟨lv, hl1, hl2⟩ := h.2.2.2.2.2.1
    obtain ⟨a1, h4, rfl⟩ := rf_gv_ref hs.1
    refine W.objInit hx hb hown hlink hinst hcode rfl (by rw [hml]; exact hl1.1) rfl hd hr1 ?_ ?_
    · show 2 * 0 + _ + 12 ≤ R.locals
      rw [rf_cats_spec hs.2]
      omega
    · exact kk ρ ad ws H locs ls stc (rf_rel_env h h.2.1 hs.2)
theorem rf_o_max {own : String} {pc idx : Nat} {a b : rf_AV} {z z' : rf_GI} {E : rf_EV} {L : rf_LC} {st : List rf_AV} {w : List rf_AC} {nn : rf_T} (hx : p.tables.exec = Jvm.exec) (hb : c.code = cc) (hml : c.maxLocals = nL) (hown : s.vm.findClass own = some m.cls) (hlink : (Cond.methodLink own idx Lib.Math.max.name).before args s = true) (hstat : (Cond.static Lib.Math.max.name).before args s = true) (hini : (Cond.initialized "java/lang/Math").before args s = true) (hcode : (Cond.code Lib.Math.max.name Lib.Math.max.code 2 (some .int)).before args s = true)
    (hr1 : 1 ≤ R.frames) (hr2 : rf_cats st + 13 ≤ R.locals) (hr3 : nn.2.1 ≤ R.cells) (hr4 : nn.2.2 ≤ R.slots) (ha : a.1 = 0) (hb0 : b.1 = 0) (hz : rf_gi E a.2.1 = some z) (hz' : rf_gi E b.2.1 = some z') (hd : decode cc pc = .ok (.invokestatic idx, 3))
    (kk : rf_G p l e R s m args below meth c Q D cl tys A H0 xt nL ρ0 (pc + 3) ((rf_fr E 0 (if z.1 + a.2.2 ≤ z'.1 + b.2.2 then z'.1 + b.2.2 else z.1 + a.2.2) (if z.2.1 + a.2.2 ≤ z'.2.1 + b.2.2 then z'.2.1 + b.2.2 else z.2.1 + a.2.2)).1, L, (rf_fr E 0 (if z.1 + a.2.2 ≤ z'.1 + b.2.2 then z'.1 + b.2.2 else z.1 + a.2.2) (if z.2.1 + a.2.2 ≤ z'.2.1 + b.2.2 then z'.2.1 + b.2.2 else z.2.1 + a.2.2)).2 :: st, w, nn)) : rf_G p l e R s m args below meth c Q D cl tys A H0 xt nL ρ0 pc (E, L, b :: a :: st, w, nn) := by
  intro ρ ad ws H locs ls stc h
  have hs := h.2.2.2.2.2.2
  match stc, h, hs with
  | y :: x :: stc, h, hs =>
    obtain ⟨lv, hl1, hl2⟩ := h.2.2.2.2.2.1
    have hE := h.2.1
    obtain ⟨ta, ga, da⟩ := a
    obtain ⟨tb, gb, db⟩ := b
    cases ha
    cases hb0
    obtain ⟨x', rfl, r, hr, hx'⟩ := rf_gv_int hs.2.1
    obtain ⟨y', rfl, r', hr', hy'⟩ := rf_gv_int hs.1
    have i1 := rf_ivl hE hz hr
    have i2 := rf_ivl hE hz' hr'
    refine va_mmax hx hb (by rw [hml]; exact hl1.1.symm) hown hlink hstat hini hcode hr1 (by rw [rf_cats_spec hs.2.2]; omega) hr3 hr4 hd ?_
    have hres : rf_res ρ ad xt (rf_fr E 0 (if z.1 + da ≤ z'.1 + db then z'.1 + db else z.1 + da) (if z.2.1 + da ≤ z'.2.1 + db then z'.2.1 + db else z.2.1 + da)) (.int (if x' < y' then y' else x')) := by
      refine rf_fr_int hE ?_ ?_
      · by_cases hc : x' < y'
        · have := Int32.lt_iff_toInt_lt.mp hc
          rw [if_pos hc]; split <;> omega
        · have : ¬ x'.toInt < y'.toInt := fun q => hc (Int32.lt_iff_toInt_lt.mpr q)
          rw [if_neg hc]; split <;> omega
      · by_cases hc : x' < y'
        · have := Int32.lt_iff_toInt_lt.mp hc
          rw [if_pos hc]; split <;> omega
        · have : ¬ x'.toInt < y'.toInt := fun q => hc (Int32.lt_iff_toInt_lt.mpr q)
          rw [if_neg hc]; split <;> omega
    obtain ⟨l1, h'⟩ := rf_rel_res h hres hs.2.2
    exact kk (ρ ++ l1) ad ws H locs ls _ h'
theorem rf_o_min {own : String} {pc idx : Nat} {a b : rf_AV} {z z' : rf_GI} {E : rf_EV} {L : rf_LC} {st : List rf_AV} {w : List rf_AC} {nn : rf_T} (hx : p.tables.exec = Jvm.exec) (hb : c.code = cc) (hml : c.maxLocals = nL) (hown : s.vm.findClass own = some m.cls) (hlink : (Cond.methodLink own idx Lib.Math.min.name).before args s = true) (hstat : (Cond.static Lib.Math.min.name).before args s = true) (hini : (Cond.initialized "java/lang/Math").before args s = true) (hcode : (Cond.code Lib.Math.min.name Lib.Math.min.code 2 (some .int)).before args s = true)
    (hr1 : 1 ≤ R.frames) (hr2 : rf_cats st + 13 ≤ R.locals) (hr3 : nn.2.1 ≤ R.cells) (hr4 : nn.2.2 ≤ R.slots) (ha : a.1 = 0) (hb0 : b.1 = 0) (hz : rf_gi E a.2.1 = some z) (hz' : rf_gi E b.2.1 = some z') (hd : decode cc pc = .ok (.invokestatic idx, 3))
    (kk : rf_G p l e R s m args below meth c Q D cl tys A H0 xt nL ρ0 (pc + 3) ((rf_fr E 0 (if z.1 + a.2.2 ≤ z'.1 + b.2.2 then z.1 + a.2.2 else z'.1 + b.2.2) (if z.2.1 + a.2.2 ≤ z'.2.1 + b.2.2 then z.2.1 + a.2.2 else z'.2.1 + b.2.2)).1, L, (rf_fr E 0 (if z.1 + a.2.2 ≤ z'.1 + b.2.2 then z.1 + a.2.2 else z'.1 + b.2.2) (if z.2.1 + a.2.2 ≤ z'.2.1 + b.2.2 then z.2.1 + a.2.2 else z'.2.1 + b.2.2)).2 :: st, w, nn)) : rf_G p l e R s m args below meth c Q D cl tys A H0 xt nL ρ0 pc (E, L, b :: a :: st, w, nn) := by
  intro ρ ad ws H locs ls stc h
  have hs := h.2.2.2.2.2.2
  match stc, h, hs with
  | y :: x :: stc, h, hs =>
    obtain ⟨lv, hl1, hl2⟩ := h.2.2.2.2.2.1
    have hE := h.2.1
    obtain ⟨ta, ga, da⟩ := a
    obtain ⟨tb, gb, db⟩ := b
    cases ha
    cases hb0
    obtain ⟨x', rfl, r, hr, hx'⟩ := rf_gv_int hs.2.1
    obtain ⟨y', rfl, r', hr', hy'⟩ := rf_gv_int hs.1
    have i1 := rf_ivl hE hz hr
    have i2 := rf_ivl hE hz' hr'
    refine va_mmin hx hb (by rw [hml]; exact hl1.1.symm) hown hlink hstat hini hcode hr1 (by rw [rf_cats_spec hs.2.2]; omega) hr3 hr4 hd ?_
    have hres : rf_res ρ ad xt (rf_fr E 0 (if z.1 + da ≤ z'.1 + db then z.1 + da else z'.1 + db) (if z.2.1 + da ≤ z'.2.1 + db then z.2.1 + da else z'.2.1 + db)) (.int (if y' < x' then y' else x')) := by
      refine rf_fr_int hE ?_ ?_
      · by_cases hc : y' < x'
        · have := Int32.lt_iff_toInt_lt.mp hc
          rw [if_pos hc]; split <;> omega
        · have : ¬ y'.toInt < x'.toInt := fun q => hc (Int32.lt_iff_toInt_lt.mpr q)
          rw [if_neg hc]; split <;> omega
      · by_cases hc : y' < x'
        · have := Int32.lt_iff_toInt_lt.mp hc
          rw [if_pos hc]; split <;> omega
        · have : ¬ y'.toInt < x'.toInt := fun q => hc (Int32.lt_iff_toInt_lt.mpr q)
          rw [if_neg hc]; split <;> omega
    obtain ⟨l1, h'⟩ := rf_rel_res h hres hs.2.2
    exact kk (ρ ++ l1) ad ws H locs ls _ h'
theorem rf_o_max2 {own : String} {pc idx : Nat} {a b : rf_AV} {E : rf_EV} {L : rf_LC} {st : List rf_AV} {w : List rf_AC} {nn : rf_T} (hx : p.tables.exec = Jvm.exec) (hb : c.code = cc) (hml : c.maxLocals = nL) (hown : s.vm.findClass own = some m.cls) (hlink : (Cond.methodLink own idx Lib.Math.max.name).before args s = true) (hstat : (Cond.static Lib.Math.max.name).before args s = true) (hini : (Cond.initialized "java/lang/Math").before args s = true) (hcode : (Cond.code Lib.Math.max.name Lib.Math.max.code 2 (some .int)).before args s = true)
    (hr1 : 1 ≤ R.frames) (hr2 : rf_cats st + 13 ≤ R.locals) (hr3 : nn.2.1 ≤ R.cells) (hr4 : nn.2.2 ≤ R.slots) (ha : a.1 = 0) (hb0 : b.1 = 0) (hd : decode cc pc = .ok (.invokestatic idx, 3))
    (kk : rf_K p l e R s m args below meth c Q D cl tys A H0 xt nL ρ0 (rf_opt (pc + 3) (rf_lt E a b) L (b :: st) (w, nn) ++ rf_opt (pc + 3) (rf_le E b a) L (a :: st) (w, nn))) : rf_G p l e R s m args below meth c Q D cl tys A H0 xt nL ρ0 pc (E, L, b :: a :: st, w, nn) := by
  intro ρ ad ws H locs ls stc h
  have hs := h.2.2.2.2.2.2
  match stc, h, hs with
  | y :: x :: stc, h, hs =>
    obtain ⟨lv, hl1, hl2⟩ := h.2.2.2.2.2.1
    have hE := h.2.1
    obtain ⟨ta, ga, da⟩ := a
    obtain ⟨tb, gb, db⟩ := b
    cases ha
    cases hb0
    obtain ⟨x', rfl, r, hr, hx'⟩ := rf_gv_int hs.2.1
    obtain ⟨y', rfl, r', hr', hy'⟩ := rf_gv_int hs.1
    have gx : rf_gv ρ ad xt (0, ga, da) (.int x') := hs.2.1
    have gy : rf_gv ρ ad xt (0, gb, db) (.int y') := hs.1
    refine va_mmax hx hb (by rw [hml]; exact hl1.1.symm) hown hlink hstat hini hcode hr1 (by rw [rf_cats_spec hs.2.2]; omega) hr3 hr4 hd ?_
    by_cases hc : x' < y'
    · rw [if_pos hc]
      obtain ⟨E', e1, k1⟩ := rf_lt_spec hE gx gy hc
      exact kk (pc + 3, (E', L, (0, gb, db) :: st, w, nn)) (List.mem_append_left _ (by simp [rf_opt, e1])) ρ ad ws H locs ls _ (rf_rel_env h k1 ⟨hs.1, hs.2.2⟩)
    · rw [if_neg hc]
      obtain ⟨E', e1, k1⟩ := rf_le_spec hE gy gx (Int32.not_lt.mp hc)
      exact kk (pc + 3, (E', L, (0, ga, da) :: st, w, nn)) (List.mem_append_right _ (by simp [rf_opt, e1])) ρ ad ws H locs ls _ (rf_rel_env h k1 ⟨hs.2.1, hs.2.2⟩)
theorem rf_o_min2 {own : String} {pc idx : Nat} {a b : rf_AV} {E : rf_EV} {L : rf_LC} {st : List rf_AV} {w : List rf_AC} {nn : rf_T} (hx : p.tables.exec = Jvm.exec) (hb : c.code = cc) (hml : c.maxLocals = nL) (hown : s.vm.findClass own = some m.cls) (hlink : (Cond.methodLink own idx Lib.Math.min.name).before args s = true) (hstat : (Cond.static Lib.Math.min.name).before args s = true) (hini : (Cond.initialized "java/lang/Math").before args s = true) (hcode : (Cond.code Lib.Math.min.name Lib.Math.min.code 2 (some .int)).before args s = true)
    (hr1 : 1 ≤ R.frames) (hr2 : rf_cats st + 13 ≤ R.locals) (hr3 : nn.2.1 ≤ R.cells) (hr4 : nn.2.2 ≤ R.slots) (ha : a.1 = 0) (hb0 : b.1 = 0) (hd : decode cc pc = .ok (.invokestatic idx, 3))
    (kk : rf_K p l e R s m args below meth c Q D cl tys A H0 xt nL ρ0 (rf_opt (pc + 3) (rf_lt E b a) L (b :: st) (w, nn) ++ rf_opt (pc + 3) (rf_le E a b) L (a :: st) (w, nn))) : rf_G p l e R s m args below meth c Q D cl tys A H0 xt nL ρ0 pc (E, L, b :: a :: st, w, nn) := by
  intro ρ ad ws H locs ls stc h
  have hs := h.2.2.2.2.2.2
  match stc, h, hs with
  | y :: x :: stc, h, hs =>
    obtain ⟨lv, hl1, hl2⟩ := h.2.2.2.2.2.1
    have hE := h.2.1
    obtain ⟨ta, ga, da⟩ := a
    obtain ⟨tb, gb, db⟩ := b
    cases ha
    cases hb0
    obtain ⟨x', rfl, r, hr, hx'⟩ := rf_gv_int hs.2.1
    obtain ⟨y', rfl, r', hr', hy'⟩ := rf_gv_int hs.1
    have gx : rf_gv ρ ad xt (0, ga, da) (.int x') := hs.2.1
    have gy : rf_gv ρ ad xt (0, gb, db) (.int y') := hs.1
    refine va_mmin hx hb (by rw [hml]; exact hl1.1.symm) hown hlink hstat hini hcode hr1 (by rw [rf_cats_spec hs.2.2]; omega) hr3 hr4 hd ?_
    by_cases hc : y' < x'
    · rw [if_pos hc]
      obtain ⟨E', e1, k1⟩ := rf_lt_spec hE gy gx hc
      exact kk (pc + 3, (E', L, (0, gb, db) :: st, w, nn)) (List.mem_append_left _ (by simp [rf_opt, e1])) ρ ad ws H locs ls _ (rf_rel_env h k1 ⟨hs.1, hs.2.2⟩)
    · rw [if_neg hc]
      obtain ⟨E', e1, k1⟩ := rf_le_spec hE gx gy (Int32.not_lt.mp hc)
      exact kk (pc + 3, (E', L, (0, ga, da) :: st, w, nn)) (List.mem_append_right _ (by simp [rf_opt, e1])) ρ ad ws H locs ls _ (rf_rel_env h k1 ⟨hs.2.1, hs.2.2⟩)
end
