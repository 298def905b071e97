/-! THE CHECKER, rows of numbers and of references -/
def rf_inb (E : rf_EV) (i : rf_AV) (n : Nat) : Bool := Nat.beq i.1 0 && (match rf_gi E i.2.1 with
  | some q => decide (0 ≤ q.1 + i.2.2) && decide (q.2.1 + i.2.2 < (n : Int))
  | none => false)
theorem rf_inb_spec {ρ : List Int} {ad : List Nat} {xt : Nat → Nat} {E : rf_EV} (hE : rf_okE ρ E) {i : rf_AV} {n : Nat} {v : Value} (h : rf_inb E i n = true) (hv : rf_gv ρ ad xt i v) : ∃ x : Int32, v = .int x ∧ vp_in x n ∧ 0 ≤ x.toInt ∧ x.toInt < n ∧ x.toNatClampNeg = x.toInt.toNat ∧ rf_num ρ i x.toInt ∧ i.1 = 0 := by
  simp only [rf_inb, Bool.and_eq_true] at h
  obtain ⟨t, g, d⟩ := i
  cases Nat.eq_of_beq_eq_true h.1
  obtain ⟨x, rfl, r, hr, hx⟩ := hv
  have h2 := h.2
  split at h2
  next q hq =>
    simp only [Bool.and_eq_true, decide_eq_true_eq] at h2
    have k := rf_ivl hE hq hr
    dsimp only at h2 hx
    exact ⟨x, rfl, vp_in_iff.mpr ⟨by omega, by omega⟩, by omega, by omega, rfl, ⟨r, hr, hx⟩, rfl⟩
  next => cases h2
def rf_trk (avs : List rf_AV) (q : Nat) (i v : rf_AV) (fs : List rf_FC) : List rf_FC := match avs with
  | [] => fs
  | _ :: _ => (1, [q], [i, v]) :: fs
/-- what is told of a row that is told by a number: of a place that is read, of one that is changed -/
def rf_l36 (q : Nat) (i r : rf_AV) (fs : List rf_FC) : List rf_FC := fs.filterMap (fun f => match f with
  | (30, [k], xs) => if Nat.beq k q then some (36, [], i :: r :: xs) else none
  | _ => none)
theorem rf_l36_mem {q : Nat} {i r : rf_AV} {fs : List rf_FC} {f : rf_FC} (h : f ∈ rf_l36 q i r fs) : ∃ xs, (30, [q], xs) ∈ fs ∧ f = (36, [], i :: r :: xs) := by
  obtain ⟨g, g1, g2⟩ := List.mem_filterMap.mp h
  split at g2
  next k xs =>
    split at g2
    next hk =>
      cases g2
      cases Nat.eq_of_beq_eq_true hk
      exact ⟨xs, g1, rfl⟩
    next => cases g2
  next => cases g2
def rf_c30 (q : Nat) (i v : rf_AV) (fs : List rf_FC) : List rf_FC := fs.filterMap (fun f => match f with
  | (30, [k], xs) => if Nat.beq k q then some (30, [k], i :: v :: xs) else none
  | _ => none)
theorem rf_c30_mem {q : Nat} {i v : rf_AV} {fs : List rf_FC} {f : rf_FC} (h : f ∈ rf_c30 q i v fs) : ∃ xs, (30, [q], xs) ∈ fs ∧ f = (30, [q], i :: v :: xs) := by
  obtain ⟨g, g1, g2⟩ := List.mem_filterMap.mp h
  split at g2
  next k xs =>
    split at g2
    next hk =>
      cases g2
      cases Nat.eq_of_beq_eq_true hk
      exact ⟨xs, g1, rfl⟩
    next => cases g2
  next => cases g2
theorem rf_f30 {xt : Nat → Nat} {ρ : List Int} {es : List va_E} {q : Nat} {xs : List rf_AV} {e : va_E} (h : rf_fact xt ρ es (30, [q], xs)) (he : es[q]? = some e) : ∃ ys, rf_L (rf_num ρ) xs ys ∧ rf_ct e (rf_chn ys) := by
  obtain ⟨ys, h1, h2⟩ := h
  dsimp only [List.map] at h2
  rw [he] at h2
  exact ⟨ys, h1, h2⟩
theorem rf_m30 {xt : Nat → Nat} {ρ : List Int} {es : List va_E} {q : Nat} {xs : List rf_AV} {ys : List Int} {e : va_E} (he : es[q]? = some e) (h1 : rf_L (rf_num ρ) xs ys) (h2 : rf_ct e (rf_chn ys)) : rf_fact xt ρ es (30, [q], xs) := by
  refine ⟨ys, h1, ?_⟩
  dsimp only [List.map]
  rw [he]
  exact h2
theorem rf_L_num_app {ρ l : List Int} {xs : List rf_AV} {ys : List Int} (h : rf_L (rf_num ρ) xs ys) : rf_L (rf_num (ρ ++ l)) xs ys := rf_L_mono (fun _ _ k => rf_num_app k) h
def rf_klim (kd : Nat) : Int × Int := if Nat.beq kd 2 then (-128, 127) else if Nat.beq kd 3 then (-32768, 32767) else (-2147483648, 2147483647)
/-- what of a value comes to lie in a row of kind kd -/
def rf_kst (E : rf_EV) (kd : Nat) (a : rf_AV) : Option (Bool × Int × Int) := match rf_gi E a.2.1 with
  | some q => if (rf_klim kd).1 ≤ q.1 + a.2.2 ∧ q.2.1 + a.2.2 ≤ (rf_klim kd).2 then some (true, q.1 + a.2.2, q.2.1 + a.2.2) else some (false, rf_klim kd)
  | none => none
def rf_join (iv : Int × Int) (lo hi : Int) : Int × Int := (if iv.1 ≤ lo then iv.1 else lo, if hi ≤ iv.2 then iv.2 else hi)
def rf_nrm (kd : Nat) (x : Int32) : Int32 := if Nat.beq kd 2 then vp_nar .byte x else if Nat.beq kd 3 then vp_nar .short x else x
theorem rf_nrm_spec {kd : Nat} {x : Int32} : ((rf_klim kd).1 ≤ x.toInt → x.toInt ≤ (rf_klim kd).2 → (rf_nrm kd x).toInt = x.toInt) ∧ (rf_klim kd).1 ≤ (rf_nrm kd x).toInt ∧ (rf_nrm kd x).toInt ≤ (rf_klim kd).2 := by
  unfold rf_klim rf_nrm
  split
  · rw [vp_nar_byte]; exact rf_i2b
  · split
    · rw [vp_nar_short]; exact rf_i2s
    · exact ⟨fun _ _ => rfl, rf_i32_lo x, rf_i32_hi x⟩
theorem rf_kst_spec {ρ : List Int} {E : rf_EV} (hE : rf_okE ρ E) {kd : Nat} {a : rf_AV} {t : Bool × Int × Int} {x : Int32} (hx : rf_num ρ a x.toInt) (h : rf_kst E kd a = some t) : t.2.1 ≤ (rf_nrm kd x).toInt ∧ (rf_nrm kd x).toInt ≤ t.2.2 ∧ (t.1 = true → (rf_nrm kd x).toInt = x.toInt) := by
  obtain ⟨r, hr, hx⟩ := hx
  unfold rf_kst at h
  split at h
  next q hq =>
    have k := rf_ivl hE hq hr
    have n := rf_nrm_spec (kd := kd) (x := x)
    split at h
    next hc =>
      cases h
      have e := n.1 (by omega) (by omega)
      exact ⟨by dsimp only; omega, by dsimp only; omega, fun _ => e⟩
    next =>
      cases h
      exact ⟨n.2.1, n.2.2, fun h => by cases h⟩
  next => cases h
def rf_stf (E : rf_EV) (b : Bool) (avs : List rf_AV) (q : Nat) (i a : rf_AV) (fs : List rf_FC) : List rf_FC := if b then rf_c30 q i a fs ++ rf_trk avs q i a (fs.filter (rf_keep E q i)) else fs.filter (rf_keep E q i)
def rf_fork (pc : Nat) (E : rf_EV) (i : rf_AV) (L : rf_LC) (st : List rf_AV) (wn : List rf_AC × rf_T) : Nat → List rf_AV → List (Nat × rf_AS)
  | _, [] => []
  | j, a :: as => rf_opt pc (rf_eq E i (0, 0, (j : Int))) L (a :: st) wn ++ rf_fork pc E i L st wn (j + 1) as
theorem rf_fork_mem {pc : Nat} {E E' : rf_EV} {i : rf_AV} {L : rf_LC} {st : List rf_AV} {wn : List rf_AC × rf_T} {a : rf_AV} : ∀ {as : List rf_AV} {j k : Nat}, as[k]? = some a → rf_eq E i (0, 0, ((j + k : Nat) : Int)) = some E' → (pc, (E', L, a :: st, wn)) ∈ rf_fork pc E i L st wn j as
  | [], j, k, h, _ => by simp at h
  | x :: as, j, 0, h, he => by
    simp only [List.getElem?_cons_zero, Option.some.injEq] at h
    subst h
    exact List.mem_append_left _ (by rw [Nat.add_zero] at he; simp [rf_opt, he])
  | x :: as, j, k + 1, h, he => by
    simp only [List.getElem?_cons_succ] at h
    refine List.mem_append_right _ (rf_fork_mem h ?_)
    rw [show j + 1 + k = j + (k + 1) by omega]
    exact he
theorem rf_const_int {ρ : List Int} {ad : List Nat} {xt : Nat → Nat} {x : Int32} {k : Int} (h : x.toInt = k) : rf_gv ρ ad xt (0, 0, k) (.int x) := ⟨x, rfl, 0, rfl, by dsimp only; omega⟩
section
variable {p : Program} {l : Launch} {e : Env} {R : Room} {s : State} {m : MethodId} {args : Array Value} {below : List Frame} {meth : Method} {c : Code} {Q : State → Prop}
variable {cc : ByteArray} {D : va_G} {cl : List vw_C} {tys : List (ClassId × FieldType)} {A : Nat → Prop} {H0 : Heap} {xt : Nat → Nat} {nL : Nat} {ρ0 : List Int × List Nat}
theorem rf_rel_facts {E : rf_EV} {L : rf_LC} {st : List rf_AV} {w : List rf_AC} {fs fs' : List rf_FC} {nc ns : Nat} {ρ : List Int} {ad : List Nat} {ws : va_W} {H : Heap} {locs : List Loc} {ls : Array Slot} {stc : List Value}
    (h : rf_Rel D cl tys A H0 xt nL ρ0 (E, L, st, w, fs, nc, ns) ρ ad ws H locs ls stc) (hf : rf_facts xt ρ (ws.map Prod.snd) fs') : rf_Rel D cl tys A H0 xt nL ρ0 (E, L, st, w, fs', nc, ns) ρ ad ws H locs ls stc := by
  obtain ⟨h0, hE, had, hw, ⟨h1, h2, h3, -⟩, hl, hs⟩ := h
  exact ⟨h0, hE, had, hw, ⟨h1, h2, h3, hf⟩, hl, hs⟩
/-- a number out of a row of ints, bytes, shorts -/
theorem rf_o_ald {pc q kd n : Nat} {ty : FieldType} {dd : Int} {iv : Int × Int} {avs : List rf_AV} {i : rf_AV} {E : rf_EV} {L : rf_LC} {st : List rf_AV} {w : List rf_AC} {fs : List rf_FC} {nc ns : Nat} (hkd : kd ≠ 1) (hty : ∀ (cA : ClassId) (ty' : FieldType), tys[kd]? = some (cA, ty') → ty' = ty) (hw0 : w[q]? = some (1, kd, n, iv, avs)) (hi : rf_inb E i n = true)
    (row : ∀ (a : Nat) (ws : va_W) (H : Heap) (locs : List Loc) (ls : Array Slot) (rest : List Value) (cA : ClassId) (f : Nat → Int32) (x : Int32), va_P D cl ws H → ws[q]? = some (a, .inl (cA, n, .inl f)) → tys[kd]? = some (cA, ty) → vp_in x n → W p l e R s m args below meth c H locs nc ns Q (F0 m (pc + 1) ls (.int (f x.toNatClampNeg) :: rest)) → W p l e R s m args below meth c H locs nc ns Q (F0 m pc ls (.int x :: .ref a :: rest)))
    (kk : rf_G p l e R s m args below meth c Q D cl tys A H0 xt nL ρ0 (pc + 1) ((rf_fr E 0 iv.1 iv.2).1, L, (rf_fr E 0 iv.1 iv.2).2 :: st, w, rf_l36 q i (rf_fr E 0 iv.1 iv.2).2 fs ++ rf_trk avs q i (rf_fr E 0 iv.1 iv.2).2 fs, nc, ns)) : rf_G p l e R s m args below meth c Q D cl tys A H0 xt nL ρ0 pc (E, L, i :: (2, q, dd) :: st, w, fs, nc, ns) := by
  intro ρ ad ws H locs ls stc h
  have hs := h.2.2.2.2.2.2
  match stc, h, hs with
  | v :: v2 :: stc, h, hs =>
    obtain ⟨-, hE, had, hw, hh, -, -⟩ := id h
    obtain ⟨x, rfl, x1, x2, x3, x4, x5, -⟩ := rf_inb_spec hE hi hs.1
    obtain ⟨a0, e, h1, h2, cA, ty', t1, h3⟩ := rf_ws_at hw had hw0
    obtain ⟨a1, h4, rfl⟩ := rf_gv_ref hs.2.1
    rw [h2] at h4
    cases h4
    rcases h3 with ⟨-, f, rfl, hf⟩ | ⟨hz, -⟩
    · cases hty cA ty' t1
      refine row a0 ws H locs ls stc cA f x hh.1 h1 t1 x1 ?_
      have hb := hf x.toNatClampNeg (by rw [x4]; dsimp only; omega)
      have hres : rf_res ρ ad xt (rf_fr E 0 iv.1 iv.2) (.int (f x.toNatClampNeg)) := rf_fr_int hE hb.1 hb.2
      have hes : (ws.map Prod.snd)[q]? = some (.inl (cA, n, .inl f)) := by rw [List.getElem?_map, h1]; rfl
      obtain ⟨l1, hr⟩ := rf_rel_res h hres hs.2.2
      refine kk (ρ ++ l1) ad ws H locs ls _ (rf_rel_facts hr ?_)
      have hf0 := hr.2.2.2.2.1.2.2.2
      intro g hg
      rcases List.mem_append.mp hg with h9 | h9
      · obtain ⟨x', ex, r, hr1, hr2⟩ := rf_gv_int hr.2.2.2.2.2.2.1
        cases ex
        obtain ⟨xs, m1, rfl⟩ := rf_l36_mem h9
        obtain ⟨ys, y1, y2⟩ := rf_f30 (hh.2.2.2 _ m1) hes
        refine ⟨x.toInt :: (f x.toNatClampNeg).toInt :: ys, ⟨rf_num_app x5, ⟨r, hr1, hr2⟩, rf_L_num_app y1⟩, x2, ?_⟩
        rw [← x4]
        exact y2 _ (by rw [x4]; omega)
      · clear hg; revert g
        unfold rf_trk
        split
        · exact hf0
        · intro g hg
          rcases List.mem_cons.mp hg with rfl | hg
          · obtain ⟨x', ex, r, hr1, hr2⟩ := rf_gv_int hr.2.2.2.2.2.2.1
            cases ex
            refine ⟨[x.toInt, (f x.toNatClampNeg).toInt], ⟨rf_num_app x5, ⟨r, hr1, hr2⟩, trivial⟩, ?_⟩
            dsimp only [List.map]
            rw [hes]
            exact ⟨cA, n, f, rfl, x2, by rw [x4]⟩
          · exact hf0 g hg
    · exact absurd hz hkd

/-- a number into a row of ints, bytes, shorts -/
theorem rf_o_ast {pc q kd n : Nat} {ty : FieldType} {dd : Int} {iv : Int × Int} {avs : List rf_AV} {i a : rf_AV} {t : Bool × Int × Int} {E : rf_EV} {L : rf_LC} {st : List rf_AV} {w : List rf_AC} {fs : List rf_FC} {nc ns : Nat} (hkd : kd ≠ 1) (hty : ∀ (cA : ClassId) (ty' : FieldType), tys[kd]? = some (cA, ty') → ty' = ty) (hw0 : w[q]? = some (1, kd, n, iv, avs)) (hi : rf_inb E i n = true) (ha : a.1 = 0) (ht : rf_kst E kd a = some t)
    (row : ∀ (a : Nat) (ws : va_W) (H : Heap) (locs : List Loc) (ls : Array Slot) (rest : List Value) (cA : ClassId) (f : Nat → Int32) (x y : Int32), va_P D cl ws H → va_D A ws → va_S A H0 H locs → ws[q]? = some (a, .inl (cA, n, .inl f)) → tys[kd]? = some (cA, ty) → vp_in x n →
      (∀ (H1 : Heap) (locs1 : List Loc), va_P D cl (ws.set q (a, .inl (cA, n, .inl (upd f x.toNatClampNeg (rf_nrm kd y))))) H1 → va_D A (ws.set q (a, .inl (cA, n, .inl (upd f x.toNatClampNeg (rf_nrm kd y))))) → va_S A H0 H1 locs1 → W p l e R s m args below meth c H1 locs1 nc ns Q (F0 m (pc + 1) ls rest)) → W p l e R s m args below meth c H locs nc ns Q (F0 m pc ls (.int y :: .int x :: .ref a :: rest)))
    (kk : rf_G p l e R s m args below meth c Q D cl tys A H0 xt nL ρ0 (pc + 1) (E, L, st, w.set q (1, kd, n, rf_join iv t.2.1 t.2.2, avs), rf_stf E t.1 avs q i a fs, nc, ns)) : rf_G p l e R s m args below meth c Q D cl tys A H0 xt nL ρ0 pc (E, L, a :: i :: (2, q, dd) :: st, w, fs, nc, ns) := by
  intro ρ ad ws H locs ls stc h
  have hs := h.2.2.2.2.2.2
  match stc, h, hs with
  | v :: v1 :: v2 :: stc, h, hs =>
    obtain ⟨-, hE, had, hw, hh, -, -⟩ := id h
    obtain ⟨x, rfl, x1, x2, x3, x4, x5, -⟩ := rf_inb_spec hE hi hs.2.1
    obtain ⟨ta, ga, da⟩ := a
    cases ha
    obtain ⟨y, rfl, hy⟩ := rf_gv_int hs.1
    obtain ⟨a0, e, h1, h2, cA, ty', t1, h3⟩ := rf_ws_at hw had hw0
    obtain ⟨a1, h4, rfl⟩ := rf_gv_ref hs.2.2.1
    rw [h2] at h4
    cases h4
    rcases h3 with ⟨-, f, rfl, hf⟩ | ⟨hz, -⟩
    · cases hty cA ty' t1
      have hes : (ws.map Prod.snd)[q]? = some (.inl (cA, n, .inl f)) := by rw [List.getElem?_map, h1]; rfl
      have ynum : rf_num ρ (0, ga, da) y.toInt := hy
      obtain ⟨b1, b2, b3⟩ := rf_kst_spec hE ynum ht
      refine row a0 ws H locs ls stc cA f x y hh.1 hh.2.1 hh.2.2.1 h1 t1 x1 (fun H1 locs1 hP hD hS => ?_)
      refine kk ρ ad _ H1 locs1 ls stc (rf_rel_set h h1 (ac' := (1, kd, n, rf_join iv t.2.1 t.2.2, avs)) ?_ hP hD hS ?_ hs.2.2.2)
      · refine ⟨cA, _, t1, Or.inl ⟨hkd, _, rfl, fun j hj => ?_⟩⟩
        by_cases hjx : j = x.toNatClampNeg
        · subst hjx
          simp only [upd, if_true]
          unfold rf_join
          exact ⟨by dsimp only; split <;> omega, by dsimp only; split <;> omega⟩
        · simp only [upd, if_neg hjx]
          have := hf j hj
          unfold rf_join
          exact ⟨by dsimp only at this ⊢; split <;> omega, by dsimp only at this ⊢; split <;> omega⟩
      · have hkeep : rf_facts xt ρ ((ws.map Prod.snd).set q (.inl (cA, n, .inl (upd f x.toNatClampNeg (rf_nrm kd y))))) (fs.filter (rf_keep E q i)) := by
          intro g hg
          obtain ⟨g1, g2⟩ := List.mem_filter.mp hg
          rw [x4]
          exact rf_keep_spec hE x5 x2 (hh.2.2.2 g g1) hes g2
        unfold rf_stf
        split
        next hb =>
          intro g hg
          rcases List.mem_append.mp hg with h9 | h9
          · obtain ⟨xs, m1, rfl⟩ := rf_c30_mem h9
            obtain ⟨ys, y1, y2⟩ := rf_f30 (hh.2.2.2 _ m1) hes
            refine rf_m30 (List.getElem?_set_self (List.getElem?_eq_some_iff.mp hes).1) (ys := x.toInt :: y.toInt :: ys) ⟨x5, ynum, y1⟩ (fun j hj => ?_)
            show ((upd f x.toNatClampNeg (rf_nrm kd y)) j).toInt = rf_dc j (rf_up x.toInt.toNat y.toInt (rf_chn ys))
            have hy1 := rf_i32_lo y
            have hy2 := rf_i32_hi y
            rw [rf_dc_up (by omega) (by omega), ← x4]
            simp only [upd]
            by_cases hjx : j = x.toNatClampNeg
            · rw [if_pos hjx, if_pos hjx]
              exact b3 hb
            · rw [if_neg hjx, if_neg hjx]
              exact y2 j hj
          · clear hg; revert g
            unfold rf_trk
            split
            · exact hkeep
            · intro g hg
              rcases List.mem_cons.mp hg with rfl | hg
              · refine ⟨[x.toInt, y.toInt], ⟨x5, ynum, trivial⟩, ?_⟩
                dsimp only [List.map]
                rw [List.getElem?_set_self (List.getElem?_eq_some_iff.mp hes).1]
                refine ⟨cA, n, _, rfl, x2, ?_⟩
                simp only [upd, x4, if_true]
                exact b3 hb
              · exact hkeep g hg
        next => exact hkeep
    · exact absurd hz hkd
theorem rf_o_lald {pc q n : Nat} {dd : Int} {iv : Int × Int} {avs : List rf_AV} {i : rf_AV} {E : rf_EV} {L : rf_LC} {st : List rf_AV} {w : List rf_AC} {fs : List rf_FC} {nc ns : Nat} (hx : p.tables.exec = Jvm.exec) (hb : c.code = cc) (hK : va_K D cl tys s) (hty : ∀ (cA : ClassId) (ty' : FieldType), tys[1]? = some (cA, ty') → ty' = .long) (hd : decode cc pc = .ok (.laload, 1)) (hw0 : w[q]? = some (1, 1, n, iv, avs)) (hi : rf_inb E i n = true)
    (kk : rf_G p l e R s m args below meth c Q D cl tys A H0 xt nL ρ0 (pc + 1) ((rf_fr E 1 iv.1 iv.2).1, L, (rf_fr E 1 iv.1 iv.2).2 :: st, w, rf_l36 q i (rf_fr E 1 iv.1 iv.2).2 fs ++ fs, nc, ns)) : rf_G p l e R s m args below meth c Q D cl tys A H0 xt nL ρ0 pc (E, L, i :: (2, q, dd) :: st, w, fs, nc, ns) := by
  intro ρ ad ws H locs ls stc h
  have hs := h.2.2.2.2.2.2
  match stc, h, hs with
  | v :: v2 :: stc, h, hs =>
    obtain ⟨-, hE, had, hw, hh, -, -⟩ := id h
    obtain ⟨x, rfl, x1, x2, x3, x4, x5, -⟩ := rf_inb_spec hE hi hs.1
    obtain ⟨a0, e, h1, h2, cA, ty', t1, h3⟩ := rf_ws_at hw had hw0
    obtain ⟨a1, h4, rfl⟩ := rf_gv_ref hs.2.1
    rw [h2] at h4
    cases h4
    cases hty cA ty' t1
    rcases h3 with ⟨hz, -⟩ | ⟨-, f, rfl, hf⟩
    · exact absurd rfl hz
    · refine va_lald hx hb hK hh.1 q 1 h1 t1 x1 hd ?_
      have hb := hf x.toNatClampNeg (by rw [x4]; dsimp only; omega)
      obtain ⟨l1, hr⟩ := rf_rel_res h (rf_fr_long (ad := ad) (xt := xt) (lo := iv.1) (hi := iv.2) hE hb.1 hb.2) hs.2.2
      have hes : (ws.map Prod.snd)[q]? = some (.inl (cA, n, .inr (.inl f))) := by rw [List.getElem?_map, h1]; rfl
      refine kk (ρ ++ l1) ad ws H locs ls _ (rf_rel_facts hr ?_)
      have hf0 := hr.2.2.2.2.1.2.2.2
      intro g hg
      rcases List.mem_append.mp hg with hg | hg
      · obtain ⟨x', ex, r, hr1, hr2⟩ := rf_gv_long hr.2.2.2.2.2.2.1
        cases ex
        obtain ⟨xs, m1, rfl⟩ := rf_l36_mem hg
        obtain ⟨ys, y1, y2⟩ := rf_f30 (hh.2.2.2 _ m1) hes
        refine ⟨x.toInt :: (f x.toNatClampNeg).toInt :: ys, ⟨rf_num_app x5, ⟨r, hr1, hr2⟩, rf_L_num_app y1⟩, x2, ?_⟩
        rw [← x4]
        exact y2 _ (by rw [x4]; omega)
      · exact hf0 g hg
theorem rf_o_last {pc q n : Nat} {dd : Int} {iv : Int × Int} {avs : List rf_AV} {i a : rf_AV} {z : rf_GI} {E : rf_EV} {L : rf_LC} {st : List rf_AV} {w : List rf_AC} {fs : List rf_FC} {nc ns : Nat} (hx : p.tables.exec = Jvm.exec) (hb : c.code = cc) (hK : va_K D cl tys s) (hty : ∀ (cA : ClassId) (ty' : FieldType), tys[1]? = some (cA, ty') → ty' = .long) (hd : decode cc pc = .ok (.lastore, 1)) (hw0 : w[q]? = some (1, 1, n, iv, avs)) (hi : rf_inb E i n = true) (ha : a.1 = 1) (hz : rf_gi E a.2.1 = some z)
    (kk : rf_G p l e R s m args below meth c Q D cl tys A H0 xt nL ρ0 (pc + 1) (E, L, st, w.set q (1, 1, n, rf_join iv (z.1 + a.2.2) (z.2.1 + a.2.2), avs), rf_c30 q i a fs ++ rf_drop q fs, nc, ns)) : rf_G p l e R s m args below meth c Q D cl tys A H0 xt nL ρ0 pc (E, L, a :: i :: (2, q, dd) :: st, w, fs, nc, ns) := by
  intro ρ ad ws H locs ls stc h
  have hs := h.2.2.2.2.2.2
  match stc, h, hs with
  | v :: v1 :: v2 :: stc, h, hs =>
    obtain ⟨-, hE, had, hw, hh, -, -⟩ := id h
    obtain ⟨x, rfl, x1, x2, x3, x4, x5, -⟩ := rf_inb_spec hE hi hs.2.1
    obtain ⟨ta, ga, da⟩ := a
    cases ha
    obtain ⟨y, rfl, r, hr, hy⟩ := rf_gv_long hs.1
    obtain ⟨a0, e, h1, h2, cA, ty', t1, h3⟩ := rf_ws_at hw had hw0
    obtain ⟨a1, h4, rfl⟩ := rf_gv_ref hs.2.2.1
    rw [h2] at h4
    cases h4
    cases hty cA ty' t1
    rcases h3 with ⟨hzz, -⟩ | ⟨-, f, rfl, hf⟩
    · exact absurd rfl hzz
    · have hv := rf_ivl hE hz hr
      refine va_last hx hb hK hh.1 hh.2.1 hh.2.2.1 q 1 h1 t1 x1 hd (fun H1 locs1 hP hD hS => ?_)
      refine kk ρ ad _ H1 locs1 ls stc (rf_rel_set h h1 (ac' := (1, 1, n, rf_join iv (z.1 + da) (z.2.1 + da), avs)) ?_ hP hD hS ?_ hs.2.2.2)
      rotate_left
      · have hes : (ws.map Prod.snd)[q]? = some (.inl (cA, n, .inr (.inl f))) := by rw [List.getElem?_map, h1]; rfl
        intro g hg
        rcases List.mem_append.mp hg with hg | hg
        · obtain ⟨xs, m1, rfl⟩ := rf_c30_mem hg
          obtain ⟨ys, y1, y2⟩ := rf_f30 (hh.2.2.2 _ m1) hes
          refine rf_m30 (List.getElem?_set_self (List.getElem?_eq_some_iff.mp hes).1) (ys := x.toInt :: y.toInt :: ys) ⟨x5, ⟨r, hr, hy⟩, y1⟩ (fun j hj => ?_)
          show ((vp_updL f x.toNatClampNeg y) j).toInt = rf_dc j (rf_up x.toInt.toNat y.toInt (rf_chn ys))
          have hy1 := rf_i64_lo y
          have hy2 := rf_i64_hi y
          rw [rf_dc_up (by omega) (by omega), ← x4]
          simp only [vp_updL]
          by_cases hjx : j = x.toNatClampNeg
          · rw [if_pos hjx, if_pos hjx]
          · rw [if_neg hjx, if_neg hjx]
            exact y2 j hj
        · exact rf_facts_drop hh.2.2.2 g hg
      refine ⟨cA, .long, t1, Or.inr ⟨rfl, _, rfl, fun j hj => ?_⟩⟩
      by_cases hjx : j = x.toNatClampNeg
      · subst hjx
        simp only [vp_updL, if_true]
        unfold rf_join
        exact ⟨by dsimp only; split <;> omega, by dsimp only; split <;> omega⟩
      · simp only [vp_updL, if_neg hjx]
        have := hf j hj
        unfold rf_join
        exact ⟨by dsimp only at this ⊢; split <;> omega, by dsimp only at this ⊢; split <;> omega⟩
/-- an int out of a row each of whose places is told -/
theorem rf_o_iald3 {pc q b : Nat} {dd : Int} {iv : Int × Int} {avs : List rf_AV} {i : rf_AV} {E : rf_EV} {L : rf_LC} {st : List rf_AV} {w : List rf_AC} {nn : rf_T} (hx : p.tables.exec = Jvm.exec) (hb : c.code = cc) (hK : va_K D cl tys s) (hty : ∀ (cA : ClassId) (ty' : FieldType), tys[0]? = some (cA, ty') → ty' = .int) (hd : decode cc pc = .ok (.iaload, 1)) (hw0 : w[q]? = some (3, 0, b, iv, avs)) (hi : rf_inb E i avs.length = true)
    (kk : rf_K p l e R s m args below meth c Q D cl tys A H0 xt nL ρ0 (rf_fork (pc + 1) E i L st (w, nn) 0 avs)) : rf_G p l e R s m args below meth c Q D cl tys A H0 xt nL ρ0 pc (E, L, i :: (2, q, dd) :: st, w, nn) := by
  intro ρ ad ws H locs ls stc h
  have hs := h.2.2.2.2.2.2
  match stc, h, hs with
  | v :: v2 :: stc, h, hs =>
    obtain ⟨-, hE, had, hw, hh, -, -⟩ := id h
    obtain ⟨x, rfl, x1, x2, x3, x4, x5, x6⟩ := rf_inb_spec hE hi hs.1
    obtain ⟨a0, e, h1, h2, cA, ty', t1, f, rfl, hf⟩ := rf_ws_at hw had hw0
    obtain ⟨a1, h4, rfl⟩ := rf_gv_ref hs.2.1
    rw [h2] at h4
    cases h4
    cases hty cA ty' t1
    refine va_iald hx hb hK hh.1 q 0 h1 t1 x1 hd ?_
    have hl : x.toNatClampNeg < avs.length := by rw [x4]; omega
    have hav : avs[x.toNatClampNeg]? = some avs[x.toNatClampNeg] := List.getElem?_eq_getElem hl
    have hv := hf _ _ hav
    obtain ⟨ti, gi, di⟩ := i
    cases x6
    obtain ⟨E', e1, hE'⟩ := rf_eq_spec (x := x) (y := x) (g := gi) (d := di) (h := 0) (e := (x.toNatClampNeg : Int)) hE hs.1 (rf_const_int (ad := ad) (xt := xt) (by rw [x4]; omega)) rfl
    exact kk _ (rf_fork_mem (j := 0) hav (by rw [Nat.zero_add]; exact e1)) ρ ad ws H locs ls _ (rf_rel_env h hE' ⟨hv, hs.2.2⟩)
/-- an int into a row each of whose places is told, at a told place -/
theorem rf_o_iast3 {pc q b j : Nat} {dd : Int} {iv : Int × Int} {avs : List rf_AV} {i a : rf_AV} {z : rf_GI} {E : rf_EV} {L : rf_LC} {st : List rf_AV} {w : List rf_AC} {fs : List rf_FC} {nc ns : Nat} (hx : p.tables.exec = Jvm.exec) (hb : c.code = cc) (hK : va_K D cl tys s) (hty : ∀ (cA : ClassId) (ty' : FieldType), tys[0]? = some (cA, ty') → ty' = .int) (hd : decode cc pc = .ok (.iastore, 1)) (hw0 : w[q]? = some (3, 0, b, iv, avs)) (hi : rf_inb E i avs.length = true) (ha : a.1 = 0) (hz : rf_gi E i.2.1 = some z) (hj1 : z.1 + i.2.2 = (j : Int)) (hj2 : z.2.1 + i.2.2 = (j : Int))
    (kk : rf_G p l e R s m args below meth c Q D cl tys A H0 xt nL ρ0 (pc + 1) (E, L, st, w.set q (3, 0, b, iv, avs.set j a), rf_drop q fs, nc, ns)) : rf_G p l e R s m args below meth c Q D cl tys A H0 xt nL ρ0 pc (E, L, a :: i :: (2, q, dd) :: st, w, fs, nc, ns) := by
  intro ρ ad ws H locs ls stc h
  have hs := h.2.2.2.2.2.2
  match stc, h, hs with
  | v :: v1 :: v2 :: stc, h, hs =>
    obtain ⟨-, hE, had, hw, hh, -, -⟩ := id h
    obtain ⟨x, rfl, x1, x2, x3, x4, ⟨r, hr, hxr⟩, -⟩ := rf_inb_spec hE hi hs.2.1
    have hv := rf_ivl hE hz hr
    have hxj : x.toNatClampNeg = j := by rw [x4]; omega
    obtain ⟨ta, ga, da⟩ := a
    cases ha
    obtain ⟨y, rfl, hy⟩ := rf_gv_int hs.1
    obtain ⟨a0, e, h1, h2, cA, ty', t1, f, rfl, hf⟩ := rf_ws_at hw had hw0
    obtain ⟨a1, h4, rfl⟩ := rf_gv_ref hs.2.2.1
    rw [h2] at h4
    cases h4
    cases hty cA ty' t1
    refine va_iast hx hb hK hh.1 hh.2.1 hh.2.2.1 q 0 h1 t1 x1 hd (fun H1 locs1 hP hD hS => ?_)
    refine kk ρ ad _ H1 locs1 ls stc (rf_rel_set h h1 (ac' := (3, 0, b, iv, avs.set j (0, ga, da))) ?_ hP hD hS (rf_facts_drop hh.2.2.2) hs.2.2.2)
    refine ⟨cA, .int, t1, upd f x.toNatClampNeg y, by simp only [List.length_set], fun k a' hk => ?_⟩
    rw [hxj]
    by_cases hkj : k = j
    · subst hkj
      have hl : k < avs.length := by omega
      have hk' : (avs.set k (0, ga, da))[k]? = some a' := hk
      rw [List.getElem?_set_self hl] at hk'
      cases hk'
      simp only [upd, if_true]
      exact hs.1
    · have hk' : (avs.set j (0, ga, da))[k]? = some a' := hk
      rw [List.getElem?_set_ne (Ne.symm hkj)] at hk'
      simp only [upd, if_neg hkj]
      exact hf k a' hk'
/-- a reference out of a row of them -/
theorem rf_o_aald {pc q kd b : Nat} {CO : String} {dd : Int} {iv : Int × Int} {avs : List rf_AV} {i : rf_AV} {E : rf_EV} {L : rf_LC} {st : List rf_AV} {w : List rf_AC} {nn : rf_T} (hx : p.tables.exec = Jvm.exec) (hb : c.code = cc) (hK : va_K D cl tys s) (hty : ∀ (cA : ClassId) (ty' : FieldType), tys[kd]? = some (cA, ty') → ty' = .object CO) (hd : decode cc pc = .ok (.aaload, 1)) (hw0 : w[q]? = some (2, kd, b, iv, avs)) (hi : rf_inb E i avs.length = true)
    (kk : rf_K p l e R s m args below meth c Q D cl tys A H0 xt nL ρ0 (rf_fork (pc + 1) E i L st (w, nn) 0 avs)) : rf_G p l e R s m args below meth c Q D cl tys A H0 xt nL ρ0 pc (E, L, i :: (2, q, dd) :: st, w, nn) := by
  intro ρ ad ws H locs ls stc h
  have hs := h.2.2.2.2.2.2
  match stc, h, hs with
  | v :: v2 :: stc, h, hs =>
    obtain ⟨-, hE, had, hw, hh, -, -⟩ := id h
    obtain ⟨x, rfl, x1, x2, x3, x4, x5, x6⟩ := rf_inb_spec hE hi hs.1
    obtain ⟨a0, e, h1, h2, cA, ty', t1, f, rfl, hf⟩ := rf_ws_at hw had hw0
    obtain ⟨a1, h4, rfl⟩ := rf_gv_ref hs.2.1
    rw [h2] at h4
    cases h4
    cases hty cA ty' t1
    refine va_aldq hx hb hK hh.1 q kd h1 t1 x1 hd ?_
    have hl : x.toNatClampNeg < avs.length := by rw [x4]; omega
    have hav : avs[x.toNatClampNeg]? = some avs[x.toNatClampNeg] := List.getElem?_eq_getElem hl
    have hv := hf _ _ hav
    obtain ⟨ti, gi, di⟩ := i
    cases x6
    obtain ⟨E', e1, hE'⟩ := rf_eq_spec (x := x) (y := x) (g := gi) (d := di) (h := 0) (e := (x.toNatClampNeg : Int)) hE hs.1 (rf_const_int (ad := ad) (xt := xt) (by rw [x4]; omega)) rfl
    exact kk _ (rf_fork_mem (j := 0) hav (by rw [Nat.zero_add]; exact e1)) ρ ad ws H locs ls _ (rf_rel_env h hE' ⟨hv, hs.2.2⟩)
end
