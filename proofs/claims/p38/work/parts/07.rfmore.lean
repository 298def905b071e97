/-! THE CHECKER, the other instructions -/
/-- constant cells: rows of ints that nobody writes -/
def rf_EX (xs : List (List Int)) (xt : Nat → Nat) (A : Nat → Prop) (s : State) : Prop := ∀ (k : Nat) (cs : List Int), xs[k]? = some cs → va_T .int (xt k) cs.length (fun j => .int (Int32.ofInt (cs.getD j 0))) A s s.heap ∧ ∀ c ∈ cs, -2147483648 ≤ c ∧ c ≤ 2147483647
def rf_SLok (own : String) (SL : List (Nat × rf_AV)) (xt : Nat → Nat) (A : Nat → Prop) (args : Array Value) (s : State) : Prop := ∀ q ∈ SL, ∃ (C n d : String) (v : Value), va_Z C n d v A s s.heap ∧ (Cond.fieldLink own q.1 C n d).before args s = true ∧ ∀ (ρ : List Int) (ad : List Nat), rf_gv ρ ad xt q.2 v
def rf_min (a : Int) : List Int → Int
  | [] => a
  | x :: l => if x ≤ rf_min a l then x else rf_min a l
def rf_max (a : Int) : List Int → Int
  | [] => a
  | x :: l => if rf_max a l ≤ x then x else rf_max a l
theorem rf_min_le {a : Int} : ∀ {l : List Int} {x : Int}, x ∈ l → rf_min a l ≤ x
  | [], x, h => by cases h
  | y :: l, x, h => by
    unfold rf_min
    rcases List.mem_cons.mp h with rfl | h
    · split <;> omega
    · have := rf_min_le (a := a) h
      split <;> omega
theorem rf_le_max {a : Int} : ∀ {l : List Int} {x : Int}, x ∈ l → x ≤ rf_max a l
  | [], x, h => by cases h
  | y :: l, x, h => by
    unfold rf_max
    rcases List.mem_cons.mp h with rfl | h
    · split <;> omega
    · have := rf_le_max (a := a) h
      split <;> omega
def rf_tld (E : rf_EV) (cs : List Int) (i : rf_AV) : rf_EV × rf_AV := match rf_gi E i.2.1 with
  | some q => if q.1 = q.2.1 then (E, (0, 0, cs.getD (q.1 + i.2.2).toNat 0)) else rf_fr E 0 (rf_min 0 cs) (rf_max 0 cs)
  | none => rf_fr E 0 (rf_min 0 cs) (rf_max 0 cs)
theorem rf_ofInt {z : Int} (h : -2147483648 ≤ z ∧ z ≤ 2147483647) : (Int32.ofInt z).toInt = z := by
  rw [Int32.toInt_ofInt]
  exact rf_bm h.1 h.2
def rf_cats : List rf_AV → Nat
  | [] => 0
  | a :: l => (if Nat.beq a.1 1 then 2 else 1) + rf_cats l
theorem rf_cats_spec {ρ : List Int} {ad : List Nat} {xt : Nat → Nat} : ∀ {st : List rf_AV} {stc : List Value}, rf_L (rf_gv ρ ad xt) st stc → (stc.map fun v => v.category).sum = rf_cats st
  | [], [], _ => rfl
  | a :: st, v :: stc, h => by
    have e := rf_gv_cat h.1
    have t := rf_cats_spec h.2
    simp only [List.map_cons, List.sum_cons, rf_cats, t, e]
    congr 1
    by_cases h1 : a.1 = 1
    · rw [if_pos h1, h1]; rfl
    · rw [if_neg h1, if_neg (fun z => h1 (Nat.eq_of_beq_eq_true z))]
  | [], _ :: _, h => h.elim
  | _ :: _, [], h => h.elim
section
variable {p : Program} {l : Launch} {e : Env} {R : Room} {s : State} {m : MethodId} {args : Array Value} {below : List Frame} {meth : Method} {c : Code} {Q : State → Prop}
variable {cc : ByteArray} {D : va_G} {cl : List vw_C} {tys : List (ClassId × FieldType)} {A : Nat → Prop} {H0 : Heap} {xt : Nat → Nat} {nL : Nat} {ρ0 : List Int × List Nat}
theorem rf_o_gets {own : String} {SL : List (Nat × rf_AV)} {pc idx : Nat} {av : rf_AV} {E : rf_EV} {L : rf_LC} {st : List rf_AV} {w : List rf_AC} {nn : rf_T} (hx : p.tables.exec = Jvm.exec) (hb : c.code = cc) (hH : H0 = s.heap) (hown : s.vm.findClass own = some m.cls) (hSL : rf_SLok own SL xt A args s) (hq : (idx, av) ∈ SL) (hd : decode cc pc = .ok (.getstatic idx, 3))
    (kk : rf_G p l e R s m args below meth c Q D cl tys A H0 xt nL ρ0 (pc + 3) (E, L, av :: st, w, nn)) : rf_G p l e R s m args below meth c Q D cl tys A H0 xt nL ρ0 pc (E, L, st, w, nn) := by
  subst hH
  intro ρ ad ws H locs ls stc h
  obtain ⟨C, n, d, v, h1, h2, h3⟩ := hSL _ hq
  refine va_gets hx hb h1 h.2.2.2.2.1.2.2.1 hown h2 (fun _ h9 => h9) hd ?_
  exact kk ρ ad ws H locs ls _ (rf_rel_env h h.2.1 ⟨h3 ρ ad, h.2.2.2.2.2.2⟩)
theorem rf_o_tld {xs : List (List Int)} {pc k : Nat} {dd : Int} {cs : List Int} {i : rf_AV} {E : rf_EV} {L : rf_LC} {st : List rf_AV} {w : List rf_AC} {nn : rf_T} (hx : p.tables.exec = Jvm.exec) (hb : c.code = cc) (hH : H0 = s.heap) (hX : rf_EX xs xt A s) (hcs : xs[k]? = some cs) (hi : rf_inb E i cs.length = true) (hd : decode cc pc = .ok (.iaload, 1))
    (kk : rf_G p l e R s m args below meth c Q D cl tys A H0 xt nL ρ0 (pc + 1) ((rf_tld E cs i).1, L, (rf_tld E cs i).2 :: st, w, nn)) : rf_G p l e R s m args below meth c Q D cl tys A H0 xt nL ρ0 pc (E, L, i :: (4, k, dd) :: st, w, nn) := by
  subst hH
  intro ρ ad ws H locs ls stc h
  have hs := h.2.2.2.2.2.2
  match stc, h, hs with
  | v :: v2 :: stc, h, hs =>
    have hE := h.2.1
    obtain ⟨x, rfl, x1, x2, x3, x4, ⟨r, hr, hxr⟩, -⟩ := rf_inb_spec hE hi hs.1
    have e2 : v2 = .ref (xt k) := hs.2.1
    subst e2
    obtain ⟨hT, hcs2⟩ := hX k cs hcs
    refine va_ti hx hb hT h.2.2.2.2.1.2.2.1 x1 rfl hd ?_
    have hl : x.toNatClampNeg < cs.length := by rw [x4]; omega
    have hg : cs.getD x.toNatClampNeg 0 = cs[x.toNatClampNeg] := by rw [List.getD_eq_getElem?_getD, List.getElem?_eq_getElem hl]; rfl
    have hm : cs[x.toNatClampNeg] ∈ cs := List.getElem_mem hl
    have hv := rf_ofInt (hcs2 _ hm)
    have hfr : rf_res ρ ad xt (rf_fr E 0 (rf_min 0 cs) (rf_max 0 cs)) (.int (Int32.ofInt (cs.getD x.toNatClampNeg 0))) := by
      refine rf_fr_int hE ?_ ?_
      · rw [hg, hv]; exact rf_min_le hm
      · rw [hg, hv]; exact rf_le_max hm
    have hres : rf_res ρ ad xt (rf_tld E cs i) (.int (Int32.ofInt (cs.getD x.toNatClampNeg 0))) := by
      unfold rf_tld
      split
      next q hq =>
        split
        next hz =>
          have iv := rf_ivl hE hq hr
          refine rf_res_same hE (rf_const_int ?_)
          have : (q.1 + i.2.2).toNat = x.toNatClampNeg := by rw [x4]; omega
          rw [this, hg, hv]
        next => exact hfr
      next => exact hfr
    obtain ⟨l1, h'⟩ := rf_rel_res h hres hs.2.2
    exact kk (ρ ++ l1) ad ws H locs ls _ h'
theorem rf_o_alen {pc q n kd b : Nat} {dd : Int} {iv : Int × Int} {avs : List rf_AV} {E : rf_EV} {L : rf_LC} {st : List rf_AV} {w : List rf_AC} {nn : rf_T} (hx : p.tables.exec = Jvm.exec) (hb : c.code = cc) (hK : va_K D cl tys s) (hw0 : w[q]? = some (1, kd, n, iv, avs)) (hn : (n : Int) ≤ 2147483647) (hd : decode cc pc = .ok (.arraylength, 1))
    (kk : rf_G p l e R s m args below meth c Q D cl tys A H0 xt nL ρ0 (pc + 1) (E, L, (0, 0, (n : Int)) :: st, w, nn)) : rf_G p l e R s m args below meth c Q D cl tys A H0 xt nL ρ0 pc (E, L, (2, q, dd) :: st, w, nn) := by
  intro ρ ad ws H locs ls stc h
  have hs := h.2.2.2.2.2.2
  match stc, h, hs with
  | v2 :: stc, h, hs =>
    obtain ⟨-, hE, had, hw, hh, -, -⟩ := id h
    obtain ⟨a0, e0, h1, h2, cA, ty', t1, h3⟩ := rf_ws_at hw had hw0
    obtain ⟨a1, h4, rfl⟩ := rf_gv_ref hs.1
    rw [h2] at h4
    cases h4
    have hi : (Int32.ofNat n).toInt = (n : Int) := by
      have := nI_toInt (n := n) (by omega)
      exact this
    have go : W p l e R s m args below meth c H locs nn.2.1 nn.2.2 Q (F0 m (pc + 1) ls (.int (Int32.ofNat n) :: stc)) := kk ρ ad ws H locs ls _ (rf_rel_env h hE ⟨rf_const_int hi, hs.2⟩)
    rcases h3 with ⟨-, f, rfl, hf⟩ | ⟨-, f, rfl, hf⟩
    · exact va_alen hx hb hK hh.1 q kd h1 t1 rfl hd go
    · exact va_alen hx hb hK hh.1 q kd h1 t1 rfl hd go
/-- longs compared -/
theorem rf_o_lcmp {pc : Nat} {a b : rf_AV} {E : rf_EV} {L : rf_LC} {st : List rf_AV} {w : List rf_AC} {nn : rf_T} (hx : p.tables.exec = Jvm.exec) (hb : c.code = cc) (ha : a.1 = 1) (hb1 : b.1 = 1) (hd : decode cc pc = .ok (.lcmp, 1))
    (kk : rf_K p l e R s m args below meth c Q D cl tys A H0 xt nL ρ0 (rf_opt (pc + 1) (rf_lt E a b) L ((0, 0, -1) :: st) (w, nn) ++ (rf_opt (pc + 1) (rf_eq E a b) L ((0, 0, 0) :: st) (w, nn) ++ rf_opt (pc + 1) (rf_lt E b a) L ((0, 0, 1) :: st) (w, nn)))) : rf_G p l e R s m args below meth c Q D cl tys A H0 xt nL ρ0 pc (E, L, b :: a :: st, w, nn) := by
  intro ρ ad ws H locs ls stc h
  have hs := h.2.2.2.2.2.2
  match stc, h, hs with
  | y :: x :: stc, h, hs =>
    have hE := h.2.1
    obtain ⟨ta, ga, da⟩ := a
    obtain ⟨tb, gb, db⟩ := b
    cases ha
    cases hb1
    obtain ⟨x', rfl, r, hr, hx'⟩ := rf_gv_long hs.2.1
    obtain ⟨y', rfl, r', hr', hy'⟩ := rf_gv_long hs.1
    refine W.lcmp hx hb hd ?_
    unfold lg_cmp
    by_cases h1 : x' > y'
    · rw [if_pos h1]
      have q1 := Int64.lt_iff_toInt_lt.mp h1
      obtain ⟨E', e1, h2⟩ := rf_addc_spec hE hr' hr (d := da - db - 1) (by omega)
      exact kk (pc + 1, (E', L, (0, 0, 1) :: st, w, nn)) (List.mem_append_right _ (List.mem_append_right _ (by simp [rf_opt, rf_lt, e1]))) ρ ad ws H locs ls _ (rf_rel_env h h2 ⟨rf_const_int rfl, hs.2.2⟩)
    · rw [if_neg h1]
      by_cases h2 : x' = y'
      · rw [if_pos h2]
        subst h2
        obtain ⟨E1, e1, h3⟩ := rf_addc_spec hE hr hr' (d := db - da) (by omega)
        obtain ⟨E2, e2, h4⟩ := rf_addc_spec h3 hr' hr (d := da - db) (by omega)
        exact kk (pc + 1, (E2, L, (0, 0, 0) :: st, w, nn)) (List.mem_append_right _ (List.mem_append_left _ (by simp [rf_opt, rf_eq, rf_le, e1, e2]))) ρ ad ws H locs ls _ (rf_rel_env h h4 ⟨rf_const_int rfl, hs.2.2⟩)
      · rw [if_neg h2]
        have q1 : ¬ y'.toInt < x'.toInt := fun z => h1 (Int64.lt_iff_toInt_lt.mpr z)
        have q2 : x'.toInt ≠ y'.toInt := fun z => h2 (Int64.toInt_inj.mp z)
        obtain ⟨E', e1, h5⟩ := rf_addc_spec hE hr hr' (d := db - da - 1) (by omega)
        exact kk (pc + 1, (E', L, (0, 0, -1) :: st, w, nn)) (List.mem_append_left _ (by simp [rf_opt, rf_lt, e1])) ρ ad ws H locs ls _ (rf_rel_env h h5 ⟨rf_const_int rfl, hs.2.2⟩)
end
/-! switches -/
def rf_tsw (pc : Nat) (E : rf_EV) (a : rf_AV) (lo : Int) (L : rf_LC) (st : List rf_AV) (wn : List rf_AC × rf_T) : Nat → List Int → Option (List (Nat × rf_AS))
  | _, [] => some []
  | j, o :: os => match rf_tgt pc o, rf_tsw pc E a lo L st wn (j + 1) os with
    | some t, some r => some (rf_opt t (rf_eq E a (0, 0, lo + (j : Int))) L st wn ++ r)
    | _, _ => none
theorem rf_tsw_mem {pc : Nat} {E E' : rf_EV} {a : rf_AV} {lo : Int} {L : rf_LC} {st : List rf_AV} {wn : List rf_AC × rf_T} {off : Int} : ∀ {os : List Int} {j k : Nat} {r : List (Nat × rf_AS)}, rf_tsw pc E a lo L st wn j os = some r → os[k]? = some off → rf_eq E a (0, 0, lo + ((j + k : Nat) : Int)) = some E' → ∃ t, rf_tgt pc off = some t ∧ (t, (E', L, st, wn)) ∈ r
  | [], j, k, r, _, h, _ => by simp at h
  | o :: os, j, k, r, hr, h, he => by
    unfold rf_tsw at hr
    split at hr
    next t r' ht hr' =>
      cases hr
      match k, h, he with
      | 0, h, he =>
        simp only [List.getElem?_cons_zero, Option.some.injEq] at h
        subst h
        refine ⟨t, ht, List.mem_append_left _ ?_⟩
        rw [Nat.add_zero] at he
        simp [rf_opt, he]
      | k + 1, h, he =>
        simp only [List.getElem?_cons_succ] at h
        obtain ⟨t', h1, h2⟩ := rf_tsw_mem hr' h (by rw [show j + 1 + k = j + (k + 1) by omega]; exact he)
        exact ⟨t', h1, List.mem_append_right _ h2⟩
    next => cases hr
def rf_tswAll (pc : Nat) (E : rf_EV) (a : rf_AV) (dflt lo hi : Int) (offs : Array Int) (L : rf_LC) (st : List rf_AV) (wn : List rf_AC × rf_T) : Option (List (Nat × rf_AS)) :=
  match rf_tgt pc dflt, rf_tsw pc E a lo L st wn 0 offs.toList with
  | some t, some r => if (offs.toList.length : Int) = hi - lo + 1 then some (rf_opt t (rf_lt E a (0, 0, lo)) L st wn ++ (rf_opt t (rf_lt E (0, 0, hi) a) L st wn ++ r)) else none
  | _, _ => none
def rf_lsw (pc : Nat) (a : rf_AV) (L : rf_LC) (st : List rf_AV) (wn : List rf_AC × rf_T) (d : Int) : rf_EV → List (Int × Int) → Option (List (Nat × rf_AS))
  | E, [] => match rf_tgt pc d with
    | some t => some [(t, (E, L, st, wn))]
    | none => none
  | E, q :: r => match rf_tgt pc q.2, (match rf_ne E a (0, 0, q.1) with
      | some E' => rf_lsw pc a L st wn d E' r
      | none => some []) with
    | some t, some rr => some (rf_opt t (rf_eq E a (0, 0, q.1)) L st wn ++ rr)
    | _, _ => none
section
variable {p : Program} {l : Launch} {e : Env} {R : Room} {s : State} {m : MethodId} {args : Array Value} {below : List Frame} {meth : Method} {c : Code} {Q : State → Prop}
variable {cc : ByteArray} {D : va_G} {cl : List vw_C} {tys : List (ClassId × FieldType)} {A : Nat → Prop} {H0 : Heap} {xt : Nat → Nat} {nL : Nat} {ρ0 : List Int × List Nat}
theorem rf_o_tsw {pc len : Nat} {dflt lo hi : Int} {offs : Array Int} {a : rf_AV} {E : rf_EV} {L : rf_LC} {st : List rf_AV} {w : List rf_AC} {nn : rf_T} {ss : List (Nat × rf_AS)} (hx : p.tables.exec = Jvm.exec) (hb : c.code = cc) (ha : a.1 = 0) (hd : decode cc pc = .ok (.tableswitch dflt lo hi offs, len)) (hss : rf_tswAll pc E a dflt lo hi offs L st (w, nn) = some ss)
    (kk : rf_K p l e R s m args below meth c Q D cl tys A H0 xt nL ρ0 ss) : rf_G p l e R s m args below meth c Q D cl tys A H0 xt nL ρ0 pc (E, L, a :: st, w, nn) := by
  intro ρ ad ws H locs ls stc h
  have hs := h.2.2.2.2.2.2
  match stc, h, hs with
  | x :: stc, h, hs =>
    have hE := h.2.1
    obtain ⟨ta, ga, da⟩ := a
    cases ha
    obtain ⟨x', rfl, r, hr, hx'⟩ := rf_gv_int hs.1
    unfold rf_tswAll at hss
    split at hss
    next t rr ht hrr =>
      split at hss
      next hlen =>
        cases hss
        by_cases h1 : x'.toInt < lo
        · obtain ⟨E', e1, h2⟩ := rf_addc_spec hE hr (h := 0) rfl (d := lo - da - 1) (by omega)
          exact lv_tableOut hx hb hd (Or.inl h1) (rf_tgt_spec ht) (kk (t, (E', L, st, w, nn)) (List.mem_append_left _ (by simp [rf_opt, rf_lt, e1])) ρ ad ws H locs ls stc (rf_rel_env h h2 hs.2))
        · by_cases h2 : hi < x'.toInt
          · obtain ⟨E', e1, h3⟩ := rf_addc_spec hE (g := 0) rfl hr (d := da - hi - 1) (by omega)
            exact lv_tableOut hx hb hd (Or.inr h2) (rf_tgt_spec ht) (kk (t, (E', L, st, w, nn)) (List.mem_append_right _ (List.mem_append_left _ (by simp [rf_opt, rf_lt, e1]))) ρ ad ws H locs ls stc (rf_rel_env h h3 hs.2))
          · have hk : (x'.toInt - lo).toNat < offs.toList.length := by omega
            have ho : offs.toList[(x'.toInt - lo).toNat]? = some offs.toList[(x'.toInt - lo).toNat] := List.getElem?_eq_getElem hk
            generalize offs.toList[(x'.toInt - lo).toNat] = off at ho
            obtain ⟨E', e1, hE'⟩ := rf_eq_spec (x := x') (y := x') (g := ga) (d := da) (h := 0) (e := lo + ((0 + (x'.toInt - lo).toNat : Nat) : Int)) hE hs.1 (rf_const_int (ad := ad) (xt := xt) (by omega)) rfl
            obtain ⟨t', t1, t2⟩ := rf_tsw_mem hrr ho e1
            exact lv_tableIn hx hb hd h1 h2 (by rw [← Array.getElem?_toList]; exact ho) (rf_tgt_spec t1) (kk _ (List.mem_append_right _ (List.mem_append_right _ t2)) ρ ad ws H locs ls stc (rf_rel_env h hE' hs.2))
      next => cases hss
    next => cases hss
theorem rf_lsw_go {pc : Nat} {a : rf_AV} {L : rf_LC} {st : List rf_AV} {w : List rf_AC} {nn : rf_T} {d : Int} {E0 : rf_EV} {ρ : List Int} {ad : List Nat} {ws : va_W} {H : Heap} {locs : List Loc} {ls : Array Slot} {stc : List Value} {x : Int32} (ha : a.1 = 0) (h : rf_Rel D cl tys A H0 xt nL ρ0 (E0, L, a :: st, w, nn) ρ ad ws H locs ls (.int x :: stc)) :
    ∀ (r : List (Int × Int)) (E : rf_EV) (ss : List (Nat × rf_AS)), rf_okE ρ E → rf_lsw pc a L st (w, nn) d E r = some ss → rf_K p l e R s m args below meth c Q D cl tys A H0 xt nL ρ0 ss → ∃ t : Nat, (pc : Int) + Op.lookupswitch.offset r d x.toInt = (t : Int) ∧ W p l e R s m args below meth c H locs nn.2.1 nn.2.2 Q (F0 m t ls stc)
  | [], E, ss, hE, hss, kk => by
    unfold rf_lsw at hss
    split at hss
    next t ht =>
      cases hss
      exact ⟨t, by rw [show Op.lookupswitch.offset [] d x.toInt = d from rfl]; exact rf_tgt_spec ht, kk _ List.mem_cons_self ρ ad ws H locs ls stc (rf_rel_env h hE h.2.2.2.2.2.2.2)⟩
    next => cases hss
  | q :: r, E, ss, hE, hss, kk => by
    have hs := h.2.2.2.2.2.2
    obtain ⟨ta, ga, da⟩ := a
    cases ha
    obtain ⟨x', ex, r0, hr, hx'⟩ := rf_gv_int hs.1
    cases ex
    unfold rf_lsw at hss
    split at hss
    next t rr ht hrr =>
      cases hss
      rw [Op.lookupswitch.offset_cons]
      by_cases hq : x.toInt = q.1
      · obtain ⟨E', e1, hE'⟩ := rf_eq_spec (x := x) (y := x) (g := ga) (d := da) (h := 0) (e := q.1) hE hs.1 (rf_const_int (ad := ad) (xt := xt) hq) rfl
        refine ⟨t, ?_, kk (t, (E', L, st, w, nn)) (List.mem_append_left _ (by simp [rf_opt, e1])) ρ ad ws H locs ls stc (rf_rel_env h hE' hs.2)⟩
        first | rw [if_pos hq] | rw [if_pos hq.symm]
        exact rf_tgt_spec ht
      · obtain ⟨E', e1, hE'⟩ := rf_nec_spec hE hr (h := 0) (b := 0) rfl (d := da) (e := q.1) (by omega)
        have e1' : rf_ne E (0, ga, da) (0, 0, q.1) = some E' := e1
        rw [e1'] at hrr
        first | rw [if_neg hq] | rw [if_neg (Ne.symm hq)]
        exact rf_lsw_go rfl h r E' rr hE' hrr (fun z hz => kk z (List.mem_append_right _ hz))
    next => cases hss
theorem rf_o_lsw {pc len : Nat} {dflt : Int} {ps : Array (Int × Int)} {a : rf_AV} {E : rf_EV} {L : rf_LC} {st : List rf_AV} {w : List rf_AC} {nn : rf_T} {ss : List (Nat × rf_AS)} (hx : p.tables.exec = Jvm.exec) (hb : c.code = cc) (ha : a.1 = 0) (hd : decode cc pc = .ok (.lookupswitch dflt ps, len)) (hp : (ps.toList.zip (ps.toList.drop 1)).all (fun (a, next) => a.1 < next.1) = true) (hss : rf_lsw pc a L st (w, nn) dflt E ps.toList = some ss)
    (kk : rf_K p l e R s m args below meth c Q D cl tys A H0 xt nL ρ0 ss) : rf_G p l e R s m args below meth c Q D cl tys A H0 xt nL ρ0 pc (E, L, a :: st, w, nn) := by
  intro ρ ad ws H locs ls stc h
  have hs := h.2.2.2.2.2.2
  match stc, h, hs with
  | x :: stc, h, hs =>
    have ha' := ha
    obtain ⟨ta, ga, da⟩ := a
    cases ha
    obtain ⟨x', rfl, -⟩ := rf_gv_int hs.1
    obtain ⟨t, h1, h2⟩ := rf_lsw_go ha' h ps.toList E ss h.2.1 hss kk
    exact lv_lookup hx hb hd hp rfl h1 h2
end
