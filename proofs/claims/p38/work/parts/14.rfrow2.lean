/-! THE CHECKER, rows that were still wanting; then one step -/
/-- is the sum of a and b at most n -/
def rf_suml (E : rf_EV) (fs : List rf_FC) (a b : rf_AV) (n : Int) : Bool := (match rf_gi E a.2.1, rf_gi E b.2.1 with
  | some q, some q' => decide (q.2.1 + a.2.2 + (q'.2.1 + b.2.2) ≤ n)
  | _, _ => false) || fs.any (fun f => match f with
    | (9, [], [x, y, z]) => rf_same E x.2.1 x.2.2 a.2.1 a.2.2 && (rf_same E y.2.1 y.2.2 b.2.1 b.2.2 && rf_leq E z (0, 0, n))
    | (8, [], [x, y, z]) => rf_same E y.2.1 y.2.2 a.2.1 a.2.2 && (rf_leq E b z && rf_leq E x (0, 0, n))
    | _ => false)
theorem rf_suml_spec {xt : Nat → Nat} {ρ : List Int} {E : rf_EV} {es : List va_E} {fs : List rf_FC} (hE : rf_okE ρ E) (hf : rf_facts xt ρ es fs) {a b : rf_AV} {n x y : Int} (h : rf_suml E fs a b n = true) (hx : rf_num ρ a x) (hy : rf_num ρ b y) : x + y ≤ n := by
  obtain ⟨r, hr, rfl⟩ := hx
  obtain ⟨r', hr', rfl⟩ := hy
  simp only [rf_suml, Bool.or_eq_true] at h
  rcases h with h | h
  · split at h
    next q q' hq hq' =>
      have i1 := rf_ivl hE hq hr
      have i2 := rf_ivl hE hq' hr'
      have := of_decide_eq_true h
      omega
    next => cases h
  · obtain ⟨f, f1, f2⟩ := List.any_eq_true.mp h
    split at f2
    next u v z =>
      simp only [Bool.and_eq_true] at f2
      obtain ⟨xs, x1, x2⟩ := hf _ f1
      match xs, x1, x2 with
      | [xu, xv, xz], x1, x2 =>
        have x2' : xu + xv ≤ xz := x2
        obtain ⟨p, p1, p2⟩ := x1.1
        obtain ⟨q, q1, q2⟩ := x1.2.1
        have e1 := rf_same_spec hE f2.1 p1 hr
        have e2 := rf_same_spec hE f2.2.1 q1 hr'
        have e3 := rf_leq_spec hE x1.2.2.1 (y := n) ⟨0, rfl, by dsimp only; omega⟩ f2.2.2
        omega
    next u v z =>
      simp only [Bool.and_eq_true] at f2
      obtain ⟨xs, x1, x2⟩ := hf _ f1
      match xs, x1, x2 with
      | [xu, xv, xz], x1, x2 =>
        have x2' : xz = xu - xv := x2
        obtain ⟨q, q1, q2⟩ := x1.2.1
        have e1 := rf_same_spec hE f2.1 q1 hr
        have e2 := rf_leq_spec hE (x := r' + b.2.2) ⟨r', hr', rfl⟩ x1.2.2.1 f2.2.1
        have e3 := rf_leq_spec hE x1.1 (y := n) ⟨0, rfl, by dsimp only; omega⟩ f2.2.2
        omega
    next => cases f2
/-- a number that isn't below 0 -/
def rf_nn (E : rf_EV) (a : rf_AV) : Bool := Nat.beq a.1 0 && (match rf_gi E a.2.1 with
  | some q => decide (0 ≤ q.1 + a.2.2)
  | none => false)
theorem rf_nn_spec {ρ : List Int} {ad : List Nat} {xt : Nat → Nat} {E : rf_EV} (hE : rf_okE ρ E) {a : rf_AV} {v : Value} (h : rf_nn E a = true) (hv : rf_gv ρ ad xt a v) : ∃ x : Int32, v = .int x ∧ ¬ x < 0 ∧ rf_num ρ a x.toInt ∧ 0 ≤ x.toInt ∧ x.toNatClampNeg = x.toInt.toNat := by
  simp only [rf_nn, Bool.and_eq_true] at h
  obtain ⟨t, g, d⟩ := a
  cases Nat.eq_of_beq_eq_true h.1
  obtain ⟨x, rfl, r, hr, hx⟩ := hv
  have h2 := h.2
  split at h2
  next q hq =>
    have k := rf_ivl hE hq hr
    have h3 := of_decide_eq_true h2
    dsimp only at h3 hx
    refine ⟨x, rfl, fun z => ?_, ⟨r, hr, hx⟩, by omega, rfl⟩
    have := Int32.lt_iff_toInt_lt.mp z
    have h0 : (0 : Int32).toInt = 0 := rfl
    omega
  next => cases h2
theorem rf_all2_nat : ∀ {as bs : List Nat}, rf_all2 Nat.beq as bs = true → as = bs
  | [], [], _ => rfl
  | a :: as, b :: bs, h => by
    simp only [rf_all2, Bool.and_eq_true] at h
    rw [Nat.eq_of_beq_eq_true h.1, rf_all2_nat h.2]
  | _ :: _, [], h => by simp [rf_all2] at h
  | [], _ :: _, h => by simp [rf_all2] at h
/-- the one number that the row q is told by -/
def rf_g30 (q : Nat) : List rf_FC → Option rf_AV
  | [] => none
  | f :: l => if Nat.beq f.1 30 && rf_all2 Nat.beq f.2.1 [q] then (match f.2.2 with
    | [a] => some a
    | _ => rf_g30 q l) else rf_g30 q l
theorem rf_g30_spec {xt : Nat → Nat} {ρ : List Int} {es : List va_E} {q : Nat} {e : va_E} (he : es[q]? = some e) : ∀ {fs : List rf_FC} {a : rf_AV}, rf_facts xt ρ es fs → rf_g30 q fs = some a → ∃ x, rf_num ρ a x ∧ rf_ct e x
  | [], _, _, h => by cases h
  | f :: l, a, hf, h => by
    have ih : rf_g30 q l = some a → ∃ x, rf_num ρ a x ∧ rf_ct e x := rf_g30_spec he (fun g hg => hf g (List.mem_cons_of_mem _ hg))
    unfold rf_g30 at h
    split at h
    next hc =>
      simp only [Bool.and_eq_true] at hc
      obtain ⟨k, qs, as⟩ := f
      have e1 : k = 30 := Nat.eq_of_beq_eq_true hc.1
      have e2 : qs = [q] := rf_all2_nat hc.2
      split at h
      next b hb =>
        cases h
        dsimp only at hb
        subst e1 e2 hb
        obtain ⟨ys, y1, y2⟩ := rf_f30 (hf _ List.mem_cons_self) he
        match ys, y1, y2 with
        | [y], y1, y2 => exact ⟨y, y1.1, y2⟩
      next => exact ih h
    next => exact ih h
/-- what a copy leaves: ghosts, facts -/
def rf_cps (E : rf_EV) (q0 q1 n1 : Nat) (sp dp n : rf_AV) (fs : List rf_FC) : rf_EV × List rf_FC := match rf_g30 q1 fs, rf_g30 q0 fs with
  | some g, some h => (match rf_gi E g.2.1 with
    | some z => if decide (0 ≤ z.1 + g.2.2) && (decide (z.2.1 + g.2.2 ≤ rf_BIG) && Nat.ble n1 375) then (rf_new E (0, rf_BIG, false), (30, [q1], [(0, E.1.length + 1, 0)]) :: (40, [], [(0, 0, 6), (0, E.1.length + 1, 0), g, h, dp, sp, n]) :: rf_drop q1 fs) else (E, rf_drop q1 fs)
    | none => (E, rf_drop q1 fs))
  | _, _ => (E, rf_drop q1 fs)
section
variable {p : Program} {l : Launch} {e : Env} {R : Room} {s : State} {m : MethodId} {args : Array Value} {below : List Frame} {meth : Method} {c : Code} {Q : State → Prop}
variable {cc : ByteArray} {D : va_G} {cl : List vw_C} {tys : List (ClassId × FieldType)} {A : Nat → Prop} {H0 : Heap} {xt : Nat → Nat} {nL : Nat} {ρ0 : List Int × List Nat}
theorem rf_o_iinc {pc i : Nat} {n : Int} {a : rf_AV} {r : rf_EV × rf_AV} {E : rf_EV} {L : rf_LC} {st : List rf_AV} {w : List rf_AC} {nn : rf_T} (hx : p.tables.exec = Jvm.exec) (hb : c.code = cc) (ha : rf_lget L i = some a) (ha0 : a.1 = 0) (hn : -2147483648 ≤ n ∧ n ≤ 2147483647) (hi : i < nL) (hr : rf_off E a n = some r) (hd : decode cc pc = .ok (.iinc i n, 3))
    (k : rf_G p l e R s m args below meth c Q D cl tys A H0 xt nL ρ0 (pc + 3) (r.1, rf_lset L i r.2, st, w, nn)) : rf_G p l e R s m args below meth c Q D cl tys A H0 xt nL ρ0 pc (E, L, st, w, nn) := by
  intro ρ ad ws H locs ls stc h
  obtain ⟨lv, hl1, hl2⟩ := h.2.2.2.2.2.1
  obtain ⟨v, hv1, hv2⟩ := rf_lget_spec hl2 ha
  obtain ⟨t, g, d⟩ := a
  cases ha0
  obtain ⟨x, rfl, r0, hr0, hx0⟩ := rf_gv_int hv2
  obtain ⟨k0, hk0⟩ := List.getElem?_of_mem hv1
  have hz : (x + Int32.ofInt n).toInt = (x.toInt + n).bmod (2 ^ 32) := by
    rw [Int32.toInt_add, rf_ofInt hn]
  have hres : rf_res ρ ad xt r (.int (x + Int32.ofInt n)) := rf_off_spec h.2.1 hr0 hx0 hz hr
  obtain ⟨l1, hr1⟩ := rf_rel_res h hres h.2.2.2.2.2.2
  obtain ⟨⟨l0, q0⟩, hE, had, hw, hh, ⟨lv', p1, p2⟩, hs⟩ := hr1
  have hl2' : rf_L (rf_loc (ρ ++ l1) ad xt) L lv := rf_L_mono (fun _ _ k => ⟨k.1, rf_gv_app k.2⟩) hl2
  refine lv_iinc hx hb hd hl1 hk0 rfl hi rfl (fun ls' hl' => k (ρ ++ l1) ad ws H locs ls' stc ?_)
  exact ⟨⟨l0, q0⟩, hE, had, hw, hh, ⟨_, hl', rf_lset_spec hl2' hs.1⟩, hs.2⟩
theorem rf_rel_cps {E : rf_EV} {L : rf_LC} {st : List rf_AV} {w : List rf_AC} {fs : List rf_FC} {nc ns : Nat} {ρ : List Int} {ad : List Nat} {ws : va_W} {H : Heap} {locs : List Loc} {ls : Array Slot} {stc : List Value} {es : List va_E} {e0 e1 e' : va_E} {q0 q1 n1 : Nat} {sp dp n : rf_AV} {xs xd xn : Int}
    (h : rf_Rel D cl tys A H0 xt nL ρ0 (E, L, st, w, rf_drop q1 fs, nc, ns) ρ ad ws H locs ls stc) (hf : rf_facts xt ρ es fs) (h0 : es[q0]? = some e0) (h1 : es[q1]? = some e1) (h2 : (ws.map Prod.snd)[q1]? = some e') (hs : rf_num ρ sp xs) (hd : rf_num ρ dp xd) (hn : rf_num ρ n xn) (s0 : 0 ≤ xs) (d0 : 0 ≤ xd) (n0 : 0 ≤ xn) (hb : xd + xn ≤ n1)
    (hc : ∀ x y x' : Int, n1 ≤ 375 → rf_ct e1 x → rf_ct e0 y → (∀ j : Nat, rf_dc j x' = if xd.toNat ≤ j ∧ j < xd.toNat + xn.toNat then rf_dc (xs.toNat + (j - xd.toNat)) y else rf_dc j x) → rf_ct e' x') :
    ∃ l1, rf_Rel D cl tys A H0 xt nL ρ0 ((rf_cps E q0 q1 n1 sp dp n fs).1, L, st, w, (rf_cps E q0 q1 n1 sp dp n fs).2, nc, ns) (ρ ++ l1) ad ws H locs ls stc := by
  have same : ∃ l1, rf_Rel D cl tys A H0 xt nL ρ0 (E, L, st, w, rf_drop q1 fs, nc, ns) (ρ ++ l1) ad ws H locs ls stc := ⟨[], by rw [List.append_nil]; exact h⟩
  unfold rf_cps
  split
  next g k hg hk =>
    split
    next z hz =>
      split
      next hcnd =>
        simp only [Bool.and_eq_true] at hcnd
        obtain ⟨c1, c2, c3⟩ := hcnd
        have c1 := of_decide_eq_true c1
        have c2 := of_decide_eq_true c2
        have c3 := Nat.le_of_ble_eq_true c3
        obtain ⟨x, x1, x2⟩ := rf_g30_spec h1 hf hg
        obtain ⟨y, y1, y2⟩ := rf_g30_spec h0 hf hk
        obtain ⟨⟨⟨l0, p0⟩, pz⟩, hE, ha, hw, ⟨f1, f2, f3, f4⟩, ⟨lv, hl1, hl2⟩, hst⟩ := h
        obtain ⟨r, r1, r2⟩ := id x1
        have iv := rf_ivl hE hz r1
        obtain ⟨x', b', hx'⟩ := rf_cp_ex (g := x) (h := y) (by omega) (by omega) xd.toNat xs.toNat xn.toNat (by omega)
        obtain ⟨hE', hr'⟩ := rf_okE_new hE (q := (0, rf_BIG, false)) (x := x') b'.1 b'.2 (fun z => by cases z)
        have hnum : rf_num (ρ ++ [x']) (0, E.1.length + 1, 0) x' := ⟨x', hr', by dsimp only; omega⟩
        refine ⟨[x'], ⟨⟨l0 ++ [x'], by rw [p0, List.append_assoc]⟩, pz⟩, hE', ha, rf_L_mono (fun _ _ k => rf_cell_mono (fun _ _ z => rf_gv_app z) k) hw, ⟨f1, f2, f3, fun f hf' => ?_⟩, ⟨lv, hl1, rf_L_mono (fun _ _ k => ⟨k.1, rf_gv_app k.2⟩) hl2⟩, rf_L_mono (fun _ _ k => rf_gv_app k) hst⟩
        rcases List.mem_cons.mp hf' with rfl | hf'
        · exact rf_m30 h2 (ys := [x']) ⟨hnum, trivial⟩ (hc x y x' c3 x2 y2 hx')
        · rcases List.mem_cons.mp hf' with rfl | hf'
          · refine ⟨[6, x', x, y, xd, xs, xn], ⟨⟨0, rfl, rfl⟩, hnum, rf_num_app x1, rf_num_app y1, rf_num_app hd, rf_num_app hs, rf_num_app hn, trivial⟩, ?_⟩
            show ∀ j : Nat, j ≤ 374 → rf_dc j x' = if xd ≤ (j : Int) ∧ (j : Int) < xd + xn then rf_dc (xs + ((j : Int) - xd)).toNat y else rf_dc j x
            intro j _
            rw [hx' j]
            by_cases hj : xd ≤ (j : Int) ∧ (j : Int) < xd + xn
            · rw [if_pos hj, if_pos (by omega)]
              congr 1
              omega
            · rw [if_neg hj, if_neg (by omega)]
          · exact rf_facts_app f4 f hf'
      next => exact same
    next => exact same
  next => exact same
theorem rf_o_copyi {own : String} {pc idx q0 q1 n0 n1 : Nat} {d0 d1 : Int} {iv0 iv1 : Int × Int} {av0 av1 : List rf_AV} {sp dp n : rf_AV} {E : rf_EV} {L : rf_LC} {st : List rf_AV} {w : List rf_AC} {fs : List rf_FC} {nc ns : Nat} (hx : p.tables.exec = Jvm.exec) (hb : c.code = cc) (hml : c.maxLocals = nL) (hown : s.vm.findClass own = some m.cls) (hlink : (Cond.methodLink own idx arraycopyName).before args s = true) (hnat : (Cond.native arraycopyName).before args s = true) (hstat : (Cond.static arraycopyName).before args s = true) (hini : (Cond.initialized "java/lang/System").before args s = true) (hK : va_K D cl tys s) (hty : ∀ (cA : ClassId) (ty' : FieldType), tys[0]? = some (cA, ty') → ty' = .int)
    (hw0 : w[q0]? = some (1, 0, n0, iv0, av0)) (hw1 : w[q1]? = some (1, 0, n1, iv1, av1)) (g1 : rf_nn E sp = true) (g2 : rf_nn E dp = true) (g3 : rf_nn E n = true) (g4 : rf_suml E fs sp n n0 = true) (g5 : rf_suml E fs dp n n1 = true) (hr1 : 1 ≤ R.frames) (hr2 : rf_cats st + (nativeFrameWords "java/lang/System" "arraycopy" 5 + 11) ≤ R.locals) (hd : decode cc pc = .ok (.invokestatic idx, 3))
    (kk : rf_G p l e R s m args below meth c Q D cl tys A H0 xt nL ρ0 (pc + 3) ((rf_cps E q0 q1 n1 sp dp n fs).1, L, st, w.set q1 (1, 0, n1, rf_join iv1 iv0.1 iv0.2, av1), (rf_cps E q0 q1 n1 sp dp n fs).2, nc, ns)) : rf_G p l e R s m args below meth c Q D cl tys A H0 xt nL ρ0 pc (E, L, n :: dp :: (2, q1, d1) :: sp :: (2, q0, d0) :: st, w, fs, nc, ns) := by
  intro ρ ad ws H locs ls stc h
  have hs := h.2.2.2.2.2.2
  match stc, h, hs with
  | v1 :: v2 :: v3 :: v4 :: v5 :: stc, h, hs =>
    obtain ⟨-, hE, had, hw, hh, ⟨lv, hl1, -⟩, -⟩ := id h
    obtain ⟨xn, rfl, n1', n2', n3', n4'⟩ := rf_nn_spec hE g3 hs.1
    obtain ⟨xd, rfl, d1', d2', d3', d4'⟩ := rf_nn_spec hE g2 hs.2.1
    obtain ⟨xs, rfl, s1', s2', s3', s4'⟩ := rf_nn_spec hE g1 hs.2.2.2.1
    obtain ⟨a0, e0, h1, h2, cA, ty', t1, h3⟩ := rf_ws_at hw had hw0
    obtain ⟨a1, h4, rfl⟩ := rf_gv_ref hs.2.2.2.2.1
    rw [h2] at h4
    cases h4
    obtain ⟨a2, e2, h5, h6, cB, ty2, t2, h7⟩ := rf_ws_at hw had hw1
    obtain ⟨a3, h8, rfl⟩ := rf_gv_ref hs.2.2.1
    rw [h6] at h8
    cases h8
    cases hty cA ty' t1
    cases hty cB ty2 t2
    rcases h3 with ⟨-, f, rfl, hf⟩ | ⟨hz, -⟩
    · rcases h7 with ⟨-, g, rfl, hg⟩ | ⟨hz, -⟩
      · have z4 := rf_suml_spec hE hh.2.2.2 g4 s2' n2'
        have z5 := rf_suml_spec hE hh.2.2.2 g5 d2' n2'
        refine va_copyi hx hb (by rw [hml]; exact hl1.1.symm) hown hlink hnat hstat hini hK hh.1 hh.2.1 hh.2.2.1 q0 q1 0 0 h1 h5 t1 t2 rfl s1' d1' n1' (by rw [s4', n4']; dsimp only; omega) (by rw [d4', n4']; dsimp only; omega) (fun _ _ => rfl) hr1 (by rw [rf_cats_spec hs.2.2.2.2.2]; exact hr2) hd (fun H1 locs1 hP hD hS => ?_)
        have hcell : rf_cell ρ ad xt tys (1, 0, n1, rf_join iv1 iv0.1 iv0.2, av1) (.inl (cB, n1, .inl (va_cpy f g xs.toNatClampNeg xd.toNatClampNeg xn.toNatClampNeg))) := by
          refine ⟨cB, _, t2, Or.inl ⟨by dsimp only; decide, _, rfl, fun j hj => ?_⟩⟩
          unfold va_cpy
          dsimp only at hj ⊢
          split
          next hc =>
            have := hf (xs.toNatClampNeg + (j - xd.toNatClampNeg)) (by dsimp only; rw [s4']; rw [d4', n4'] at hc; rw [d4']; omega)
            dsimp only at this
            unfold rf_join
            exact ⟨by dsimp only; split <;> omega, by dsimp only; split <;> omega⟩
          next =>
            have := hg j hj
            dsimp only at this
            unfold rf_join
            exact ⟨by dsimp only; split <;> omega, by dsimp only; split <;> omega⟩
        have hct : ∀ x y x' : Int, n1 ≤ 375 → rf_ct (.inl (cB, n1, .inl g)) x → rf_ct (.inl (cA, n0, .inl f)) y → (∀ j : Nat, rf_dc j x' = if xd.toInt.toNat ≤ j ∧ j < xd.toInt.toNat + xn.toInt.toNat then rf_dc (xs.toInt.toNat + (j - xd.toInt.toNat)) y else rf_dc j x) → rf_ct (.inl (cB, n1, .inl (va_cpy f g xs.toNatClampNeg xd.toNatClampNeg xn.toNatClampNeg))) x' := by
          intro x y x' _ hx1 hx2 hx3
          have q1' : ∀ j, j < n1 → (g j).toInt = rf_dc j x := hx1
          have q2' : ∀ j, j < n0 → (f j).toInt = rf_dc j y := hx2
          show ∀ j, j < n1 → (va_cpy f g xs.toNatClampNeg xd.toNatClampNeg xn.toNatClampNeg j).toInt = rf_dc j x'
          intro j hj
          rw [hx3 j]
          unfold va_cpy
          rw [s4', d4', n4']
          by_cases hjc : xd.toInt.toNat ≤ j ∧ j < xd.toInt.toNat + xn.toInt.toNat
          · rw [if_pos hjc, if_pos hjc]
            exact q2' _ (by omega)
          · rw [if_neg hjc, if_neg hjc]
            exact q1' j hj
        obtain ⟨l1, hR⟩ := rf_rel_cps (n := n) (rf_rel_set h h5 hcell hP hD hS (rf_facts_drop hh.2.2.2) hs.2.2.2.2.2) hh.2.2.2 (by rw [List.getElem?_map, h1]; rfl) (by rw [List.getElem?_map, h5]; rfl) (by rw [rf_set_snd]; exact List.getElem?_set_self (by rw [List.length_map]; exact (List.getElem?_eq_some_iff.mp h5).1)) s2' d2' n2' s3' d3' n3' z5 hct
        exact kk (ρ ++ l1) ad _ H1 locs1 ls stc hR
      · exact absurd hz (by dsimp only; decide)
    · exact absurd hz (by dsimp only; decide)
theorem rf_o_copyl {own : String} {pc idx q0 q1 n0 n1 : Nat} {d0 d1 : Int} {iv0 iv1 : Int × Int} {av0 av1 : List rf_AV} {sp dp n : rf_AV} {E : rf_EV} {L : rf_LC} {st : List rf_AV} {w : List rf_AC} {fs : List rf_FC} {nc ns : Nat} (hx : p.tables.exec = Jvm.exec) (hb : c.code = cc) (hml : c.maxLocals = nL) (hown : s.vm.findClass own = some m.cls) (hlink : (Cond.methodLink own idx arraycopyName).before args s = true) (hnat : (Cond.native arraycopyName).before args s = true) (hstat : (Cond.static arraycopyName).before args s = true) (hini : (Cond.initialized "java/lang/System").before args s = true) (hK : va_K D cl tys s) (hty : ∀ (cA : ClassId) (ty' : FieldType), tys[1]? = some (cA, ty') → ty' = .long)
    (hw0 : w[q0]? = some (1, 1, n0, iv0, av0)) (hw1 : w[q1]? = some (1, 1, n1, iv1, av1)) (g1 : rf_nn E sp = true) (g2 : rf_nn E dp = true) (g3 : rf_nn E n = true) (g4 : rf_suml E fs sp n n0 = true) (g5 : rf_suml E fs dp n n1 = true) (hr1 : 1 ≤ R.frames) (hr2 : rf_cats st + (nativeFrameWords "java/lang/System" "arraycopy" 5 + 11) ≤ R.locals) (hd : decode cc pc = .ok (.invokestatic idx, 3))
    (kk : rf_G p l e R s m args below meth c Q D cl tys A H0 xt nL ρ0 (pc + 3) ((rf_cps E q0 q1 n1 sp dp n fs).1, L, st, w.set q1 (1, 1, n1, rf_join iv1 iv0.1 iv0.2, av1), (rf_cps E q0 q1 n1 sp dp n fs).2, nc, ns)) : rf_G p l e R s m args below meth c Q D cl tys A H0 xt nL ρ0 pc (E, L, n :: dp :: (2, q1, d1) :: sp :: (2, q0, d0) :: st, w, fs, nc, ns) := by
  intro ρ ad ws H locs ls stc h
  have hs := h.2.2.2.2.2.2
  match stc, h, hs with
  | v1 :: v2 :: v3 :: v4 :: v5 :: stc, h, hs =>
    obtain ⟨-, hE, had, hw, hh, ⟨lv, hl1, -⟩, -⟩ := id h
    obtain ⟨xn, rfl, n1', n2', n3', n4'⟩ := rf_nn_spec hE g3 hs.1
    obtain ⟨xd, rfl, d1', d2', d3', d4'⟩ := rf_nn_spec hE g2 hs.2.1
    obtain ⟨xs, rfl, s1', s2', s3', s4'⟩ := rf_nn_spec hE g1 hs.2.2.2.1
    obtain ⟨a0, e0, h1, h2, cA, ty', t1, h3⟩ := rf_ws_at hw had hw0
    obtain ⟨a1, h4, rfl⟩ := rf_gv_ref hs.2.2.2.2.1
    rw [h2] at h4
    cases h4
    obtain ⟨a2, e2, h5, h6, cB, ty2, t2, h7⟩ := rf_ws_at hw had hw1
    obtain ⟨a3, h8, rfl⟩ := rf_gv_ref hs.2.2.1
    rw [h6] at h8
    cases h8
    cases hty cA ty' t1
    cases hty cB ty2 t2
    rcases h3 with ⟨hz, -⟩ | ⟨-, f, rfl, hf⟩
    · exact absurd rfl hz
    · rcases h7 with ⟨hz, -⟩ | ⟨-, g, rfl, hg⟩
      · exact absurd rfl hz
      · have z4 := rf_suml_spec hE hh.2.2.2 g4 s2' n2'
        have z5 := rf_suml_spec hE hh.2.2.2 g5 d2' n2'
        refine va_copyl hx hb (by rw [hml]; exact hl1.1.symm) hown hlink hnat hstat hini hK hh.1 hh.2.1 hh.2.2.1 q0 q1 1 1 h1 h5 t1 t2 rfl s1' d1' n1' (by rw [s4', n4']; dsimp only; omega) (by rw [d4', n4']; dsimp only; omega) (fun _ _ => rfl) hr1 (by rw [rf_cats_spec hs.2.2.2.2.2]; exact hr2) hd (fun H1 locs1 hP hD hS => ?_)
        have hcell : rf_cell ρ ad xt tys (1, 1, n1, rf_join iv1 iv0.1 iv0.2, av1) (.inl (cB, n1, .inr (.inl (va_cpy f g xs.toNatClampNeg xd.toNatClampNeg xn.toNatClampNeg)))) := by
          refine ⟨cB, _, t2, Or.inr ⟨rfl, _, rfl, fun j hj => ?_⟩⟩
          unfold va_cpy
          dsimp only at hj ⊢
          split
          next hc =>
            have := hf (xs.toNatClampNeg + (j - xd.toNatClampNeg)) (by dsimp only; rw [s4']; rw [d4', n4'] at hc; rw [d4']; omega)
            dsimp only at this
            unfold rf_join
            exact ⟨by dsimp only; split <;> omega, by dsimp only; split <;> omega⟩
          next =>
            have := hg j hj
            dsimp only at this
            unfold rf_join
            exact ⟨by dsimp only; split <;> omega, by dsimp only; split <;> omega⟩
        have hct : ∀ x y x' : Int, n1 ≤ 375 → rf_ct (.inl (cB, n1, .inr (.inl g))) x → rf_ct (.inl (cA, n0, .inr (.inl f))) y → (∀ j : Nat, rf_dc j x' = if xd.toInt.toNat ≤ j ∧ j < xd.toInt.toNat + xn.toInt.toNat then rf_dc (xs.toInt.toNat + (j - xd.toInt.toNat)) y else rf_dc j x) → rf_ct (.inl (cB, n1, .inr (.inl (va_cpy f g xs.toNatClampNeg xd.toNatClampNeg xn.toNatClampNeg)))) x' := by
          intro x y x' _ hx1 hx2 hx3
          have q1' : ∀ j, j < n1 → (g j).toInt = rf_dc j x := hx1
          have q2' : ∀ j, j < n0 → (f j).toInt = rf_dc j y := hx2
          show ∀ j, j < n1 → (va_cpy f g xs.toNatClampNeg xd.toNatClampNeg xn.toNatClampNeg j).toInt = rf_dc j x'
          intro j hj
          rw [hx3 j]
          unfold va_cpy
          rw [s4', d4', n4']
          by_cases hjc : xd.toInt.toNat ≤ j ∧ j < xd.toInt.toNat + xn.toInt.toNat
          · rw [if_pos hjc, if_pos hjc]
            exact q2' _ (by omega)
          · rw [if_neg hjc, if_neg hjc]
            exact q1' j hj
        obtain ⟨l1, hR⟩ := rf_rel_cps (n := n) (rf_rel_set h h5 hcell hP hD hS (rf_facts_drop hh.2.2.2) hs.2.2.2.2.2) hh.2.2.2 (by rw [List.getElem?_map, h1]; rfl) (by rw [List.getElem?_map, h5]; rfl) (by rw [rf_set_snd]; exact List.getElem?_set_self (by rw [List.length_map]; exact (List.getElem?_eq_some_iff.mp h5).1)) s2' d2' n2' s3' d3' n3' z5 hct
        exact kk (ρ ++ l1) ad _ H1 locs1 ls stc hR
def rf_oc (F : Option rf_FC) (fs : List rf_FC) : List rf_FC := match F with
  | some f => f :: fs
  | none => fs
/-- two values, one comes of them; a fact on it comes too -/
theorem rf_o_binf {pc pc' : Nat} {E : rf_EV} {L : rf_LC} {st : List rf_AV} {w : List rf_AC} {fs : List rf_FC} {nc ns : Nat} {a b : rf_AV} {r : rf_EV × rf_AV} {F : Option rf_FC}
    (row : ∀ (ρ : List Int) (ad : List Nat) (x y : Value) (H : Heap) (locs : List Loc) (ls : Array Slot) (rest : List Value), rf_okE ρ E → rf_gv ρ ad xt a x → rf_gv ρ ad xt b y → ∃ v', rf_res ρ ad xt r v' ∧ (W p l e R s m args below meth c H locs nc ns Q (F0 m pc' ls (v' :: rest)) → W p l e R s m args below meth c H locs nc ns Q (F0 m pc ls (y :: x :: rest))) ∧ (∀ f, F = some f → ∀ (ρ' : List Int) (es : List va_E), rf_gv ρ' ad xt a x → rf_gv ρ' ad xt b y → rf_gv ρ' ad xt r.2 v' → rf_fact xt ρ' es f))
    (k : rf_G p l e R s m args below meth c Q D cl tys A H0 xt nL ρ0 pc' (r.1, L, r.2 :: st, w, rf_oc F fs, nc, ns)) : rf_G p l e R s m args below meth c Q D cl tys A H0 xt nL ρ0 pc (E, L, b :: a :: st, w, fs, nc, ns) := by
  intro ρ ad ws H locs ls stc h
  have hs := h.2.2.2.2.2.2
  match stc, h, hs with
  | y :: x :: stc, h, hs =>
    obtain ⟨v', h1, h2, h3⟩ := row ρ ad x y H locs ls stc h.2.1 hs.2.1 hs.1
    obtain ⟨l1, h'⟩ := rf_rel_res h h1 hs.2.2
    refine h2 (k (ρ ++ l1) ad ws H locs ls _ (rf_rel_facts h' ?_))
    have hf0 := h'.2.2.2.2.1.2.2.2
    cases hF : F with
    | none => exact hf0
    | some f0 =>
      intro f hf
      rcases List.mem_cons.mp hf with rfl | hf
      · exact h3 _ hF (ρ ++ l1) _ (rf_gv_app hs.2.1) (rf_gv_app hs.1) h'.2.2.2.2.2.2.1
      · exact hf0 f hf
/-- one value, one comes of it; a fact on it comes too -/
theorem rf_o_unf {pc pc' : Nat} {E : rf_EV} {L : rf_LC} {st : List rf_AV} {w : List rf_AC} {fs : List rf_FC} {nc ns : Nat} {a : rf_AV} {r : rf_EV × rf_AV} {F : Option rf_FC}
    (row : ∀ (ρ : List Int) (ad : List Nat) (x : Value) (H : Heap) (locs : List Loc) (ls : Array Slot) (rest : List Value), rf_okE ρ E → rf_gv ρ ad xt a x → ∃ v', rf_res ρ ad xt r v' ∧ (W p l e R s m args below meth c H locs nc ns Q (F0 m pc' ls (v' :: rest)) → W p l e R s m args below meth c H locs nc ns Q (F0 m pc ls (x :: rest))) ∧ (∀ f, F = some f → ∀ (ρ' : List Int) (es : List va_E), rf_gv ρ' ad xt a x → rf_gv ρ' ad xt r.2 v' → rf_fact xt ρ' es f))
    (k : rf_G p l e R s m args below meth c Q D cl tys A H0 xt nL ρ0 pc' (r.1, L, r.2 :: st, w, rf_oc F fs, nc, ns)) : rf_G p l e R s m args below meth c Q D cl tys A H0 xt nL ρ0 pc (E, L, a :: st, w, fs, nc, ns) := by
  intro ρ ad ws H locs ls stc h
  have hs := h.2.2.2.2.2.2
  match stc, h, hs with
  | x :: stc, h, hs =>
    obtain ⟨v', h1, h2, h3⟩ := row ρ ad x H locs ls stc h.2.1 hs.1
    obtain ⟨l1, h'⟩ := rf_rel_res h h1 hs.2
    refine h2 (k (ρ ++ l1) ad ws H locs ls _ (rf_rel_facts h' ?_))
    have hf0 := h'.2.2.2.2.1.2.2.2
    cases hF : F with
    | none => exact hf0
    | some f0 =>
      intro f hf
      rcases List.mem_cons.mp hf with rfl | hf
      · exact h3 _ hF (ρ ++ l1) _ (rf_gv_app hs.1) h'.2.2.2.2.2.2.1
      · exact hf0 f hf
end
