/-! THE CHECKER, one step, the heap's part -/
def rf_fl (FL : List (Nat × Nat × Nat)) (idx : Nat) : Option (Nat × Nat × Nat) := FL.find? (fun q => Nat.beq q.1 idx)
def rf_s_get (FL : List (Nat × Nat × Nat)) (idx pc : Nat) (S : rf_AS) : rf_SS := match S.2.2.1, rf_fl FL idx with
  | a :: st, some q => if Nat.beq a.1 2 then (match S.2.2.2.1[a.2.1]? with
      | some ce => if Nat.beq ce.1 0 && Nat.beq ce.2.1 q.2.1 then (match ce.2.2.2.2[q.2.2]? with
          | some v => some [(pc, (S.1, S.2.1, v :: st, S.2.2.2))]
          | none => none) else none
      | none => none) else none
  | _, _ => none
def rf_s_put (cl : List vw_C) (ct : List (Nat → FieldType)) (FL : List (Nat × Nat × Nat)) (oc : Nat) (ini : Bool) (idx pc : Nat) (S : rf_AS) : rf_SS := match S.2.2.1, rf_fl FL idx with
  | v :: a :: st, some q => if Nat.beq a.1 2 then (match S.2.2.2.1[a.2.1]?, ct[q.2.1]?, cl[q.2.1]? with
      | some ce, some ty, some C => if Nat.beq ce.1 0 && (Nat.beq ce.2.1 q.2.1 && (Nat.blt q.2.2 ce.2.2.2.2.length && (rf_fty S.1 (ty q.2.2) v && (!(C.2.1 q.2.2).2.2.2 || (ini && Nat.beq q.2.1 oc))))) then some [(pc, (S.1, S.2.1, st, S.2.2.2.1.set a.2.1 (0, q.2.1, ce.2.2.1, ce.2.2.2.1, ce.2.2.2.2.set q.2.2 v), rf_drop a.2.1 S.2.2.2.2.1, S.2.2.2.2.2))] else none
      | _, _, _ => none) else none
  | _, _ => none
/-- what is told of a place of a row -/
def rf_memo (E : rf_EV) (q : Nat) (i : rf_AV) (fs : List rf_FC) : Option rf_AV := fs.findSome? (fun f => match f with
  | (1, [q'], [j, v]) => if Nat.beq q q' && rf_same E j.2.1 j.2.2 i.2.1 i.2.2 then some v else none
  | _ => none)
/-- what is told of a place of a row by its number -/
def rf_mm36 (E : rf_EV) (i : rf_AV) (xs : List rf_AV) (fs : List rf_FC) : Option rf_AV := fs.findSome? (fun f => match f with
  | (36, [], j :: v :: ys) => if rf_same E j.2.1 j.2.2 i.2.1 i.2.2 && rf_all2 (fun a b => rf_same E a.2.1 a.2.2 b.2.1 b.2.2) ys xs then some v else none
  | _ => none)
def rf_memc (E : rf_EV) (q : Nat) (i : rf_AV) (fs : List rf_FC) : Option rf_AV := fs.findSome? (fun f => match f with
  | (30, [k], xs) => if Nat.beq k q then rf_mm36 E i xs fs else none
  | _ => none)
def rf_s_ald (kd pc : Nat) (S : rf_AS) : rf_SS := match S.2.2.1 with
  | i :: a :: st => if Nat.beq a.1 2 then (match S.2.2.2.1[a.2.1]? with
      | some ce => if Nat.beq ce.1 1 && (Nat.beq ce.2.1 kd && rf_inb S.1 i ce.2.2.1) then (match rf_memo S.1 a.2.1 i S.2.2.2.2.1 with
        | some v => some [(pc, (S.1, S.2.1, (0, v.2.1, v.2.2) :: st, S.2.2.2))]
        | none => (match rf_memc S.1 a.2.1 i S.2.2.2.2.1 with
          | some v => some [(pc, (S.1, S.2.1, (0, v.2.1, v.2.2) :: st, S.2.2.2))]
          | none => some [(pc, ((rf_fr S.1 0 ce.2.2.2.1.1 ce.2.2.2.1.2).1, S.2.1, (rf_fr S.1 0 ce.2.2.2.1.1 ce.2.2.2.1.2).2 :: st, S.2.2.2.1, rf_l36 a.2.1 i (rf_fr S.1 0 ce.2.2.2.1.1 ce.2.2.2.1.2).2 S.2.2.2.2.1 ++ rf_trk ce.2.2.2.2 a.2.1 i (rf_fr S.1 0 ce.2.2.2.1.1 ce.2.2.2.1.2).2 S.2.2.2.2.1, S.2.2.2.2.2))]))
        else if Nat.beq ce.1 3 && (Nat.beq kd 0 && (Nat.beq ce.2.1 0 && rf_inb S.1 i ce.2.2.2.2.length)) then some (rf_fork pc S.1 i S.2.1 st (S.2.2.2.1, S.2.2.2.2) 0 ce.2.2.2.2) else none
      | none => none) else none
  | _ => none
def rf_s_tld (xs : List (List Int)) (pc : Nat) (S : rf_AS) : rf_SS := match S.2.2.1 with
  | i :: a :: st => if Nat.beq a.1 4 then (match xs[a.2.1]? with
      | some cs => if rf_inb S.1 i cs.length then some [(pc, ((rf_tld S.1 cs i).1, S.2.1, (rf_tld S.1 cs i).2 :: st, S.2.2.2))] else none
      | none => none) else none
  | _ => none
def rf_s_ast (kd pc : Nat) (S : rf_AS) : rf_SS := match S.2.2.1 with
  | v :: i :: a :: st => if Nat.beq a.1 2 && Nat.beq v.1 0 then (match S.2.2.2.1[a.2.1]? with
      | some ce => if Nat.beq ce.1 1 && (Nat.beq ce.2.1 kd && rf_inb S.1 i ce.2.2.1) then (match rf_kst S.1 kd v with
          | some t => some [(pc, (S.1, S.2.1, st, S.2.2.2.1.set a.2.1 (1, kd, ce.2.2.1, rf_join ce.2.2.2.1 t.2.1 t.2.2, ce.2.2.2.2), rf_stf S.1 t.1 ce.2.2.2.2 a.2.1 i v S.2.2.2.2.1, S.2.2.2.2.2))]
          | none => none)
        else if Nat.beq ce.1 3 && (Nat.beq kd 0 && (Nat.beq ce.2.1 0 && rf_inb S.1 i ce.2.2.2.2.length)) then (match rf_one S.1 i.2.1 i.2.2 with
          | some j => some [(pc, (S.1, S.2.1, st, S.2.2.2.1.set a.2.1 (3, 0, ce.2.2.1, ce.2.2.2.1, ce.2.2.2.2.set j.toNat v), rf_drop a.2.1 S.2.2.2.2.1, S.2.2.2.2.2))]
          | none => none) else none
      | none => none) else none
  | _ => none
def rf_s_lald (pc : Nat) (S : rf_AS) : rf_SS := match S.2.2.1 with
  | i :: a :: st => if Nat.beq a.1 2 then (match S.2.2.2.1[a.2.1]? with
      | some ce => if Nat.beq ce.1 1 && (Nat.beq ce.2.1 1 && rf_inb S.1 i ce.2.2.1) then some [(pc, ((rf_fr S.1 1 ce.2.2.2.1.1 ce.2.2.2.1.2).1, S.2.1, (rf_fr S.1 1 ce.2.2.2.1.1 ce.2.2.2.1.2).2 :: st, S.2.2.2.1, rf_l36 a.2.1 i (rf_fr S.1 1 ce.2.2.2.1.1 ce.2.2.2.1.2).2 S.2.2.2.2.1 ++ S.2.2.2.2.1, S.2.2.2.2.2))] else none
      | none => none) else none
  | _ => none
def rf_s_last (pc : Nat) (S : rf_AS) : rf_SS := match S.2.2.1 with
  | v :: i :: a :: st => if Nat.beq a.1 2 && Nat.beq v.1 1 then (match S.2.2.2.1[a.2.1]?, rf_gi S.1 v.2.1 with
      | some ce, some z => if Nat.beq ce.1 1 && (Nat.beq ce.2.1 1 && rf_inb S.1 i ce.2.2.1) then some [(pc, (S.1, S.2.1, st, S.2.2.2.1.set a.2.1 (1, 1, ce.2.2.1, rf_join ce.2.2.2.1 (z.1 + v.2.2) (z.2.1 + v.2.2), ce.2.2.2.2), rf_c30 a.2.1 i v S.2.2.2.2.1 ++ rf_drop a.2.1 S.2.2.2.2.1, S.2.2.2.2.2))] else none
      | _, _ => none) else none
  | _ => none
def rf_s_aald (pc : Nat) (S : rf_AS) : rf_SS := match S.2.2.1 with
  | i :: a :: st => if Nat.beq a.1 2 then (match S.2.2.2.1[a.2.1]? with
      | some ce => if Nat.beq ce.1 2 && (Nat.beq ce.2.1 4 && rf_inb S.1 i ce.2.2.2.2.length) then some (rf_fork pc S.1 i S.2.1 st (S.2.2.2.1, S.2.2.2.2) 0 ce.2.2.2.2) else none
      | none => none) else none
  | _ => none
def rf_s_aast (co : Nat) (pc : Nat) (S : rf_AS) : rf_SS := match S.2.2.1 with
  | v :: i :: a :: st => if Nat.beq a.1 2 && Nat.beq v.1 2 then (match S.2.2.2.1[a.2.1]?, S.2.2.2.1[v.2.1]?, rf_one S.1 i.2.1 i.2.2 with
      | some ce, some cv, some j => if Nat.beq ce.1 2 && (Nat.beq ce.2.1 4 && (rf_inb S.1 i ce.2.2.2.2.length && (Nat.beq cv.1 0 && Nat.beq cv.2.1 co))) then some [(pc, (S.1, S.2.1, st, S.2.2.2.1.set a.2.1 (2, 4, ce.2.2.1, ce.2.2.2.1, ce.2.2.2.2.set j.toNat (2, v.2.1, v.2.2)), rf_drop a.2.1 S.2.2.2.2.1, S.2.2.2.2.2))] else none
      | _, _, _ => none) else none
  | _ => none
def rf_s_alen (pc : Nat) (S : rf_AS) : rf_SS := match S.2.2.1 with
  | a :: st => if Nat.beq a.1 2 then (match S.2.2.2.1[a.2.1]? with
      | some ce => if Nat.beq ce.1 1 && Nat.ble ce.2.2.1 2147483647 then some [(pc, (S.1, S.2.1, (0, 0, (ce.2.2.1 : Int)) :: st, S.2.2.2))] else none
      | none => none) else none
  | _ => none
def rf_s_new (cl : List vw_C) (ct : List (Nat → FieldType)) (NL : List (Nat × Nat)) (RC RS idx pc : Nat) (S : rf_AS) : rf_SS := match NL.find? (fun q => Nat.beq q.1 idx) with
  | some q => (match cl[q.2]?, ct[q.2]? with
    | some C, some ty => if (rf_dvs ty C.2.2).all (fun a => !(Nat.beq a.1 9)) && (Nat.ble (S.2.2.2.2.2.1 + 1) RC && Nat.ble (S.2.2.2.2.2.2 + C.2.2) RS) then some [(pc, (S.1, S.2.1, (2, S.2.2.2.1.length, 0) :: S.2.2.1, S.2.2.2.1 ++ [(0, q.2, 0, (0, 0), rf_dvs ty C.2.2)], S.2.2.2.2.1, S.2.2.2.2.2.1 + 1, S.2.2.2.2.2.2 + C.2.2))] else none
    | _, _ => none)
  | none => none
def rf_s_newa (at' : ArrayType) (RC RS pc : Nat) (S : rf_AS) : rf_SS := match S.2.2.1 with
  | a :: st => if Nat.beq a.1 0 && Nat.ble (rf_akd at') 3 then (match rf_one S.1 a.2.1 a.2.2 with
      | some n => if decide (0 ≤ n) && (Nat.ble n.toNat 60000000 && (Nat.ble (S.2.2.2.2.2.1 + 1) RC && Nat.ble (S.2.2.2.2.2.2 + n.toNat) RS)) then some [(pc, (S.1, S.2.1, (2, S.2.2.2.1.length, 0) :: st, S.2.2.2.1 ++ [(1, rf_akd at', n.toNat, (0, 0), [])], (30, [S.2.2.2.1.length], [(0, 0, 0)]) :: S.2.2.2.2.1, S.2.2.2.2.2.1 + 1, S.2.2.2.2.2.2 + n.toNat))] else none
      | none => none) else none
  | _ => none
def rf_s_anew (AL : List Nat) (RC RS idx pc : Nat) (S : rf_AS) : rf_SS := match S.2.2.1 with
  | a :: st => if Nat.beq a.1 0 && AL.contains idx then (match rf_one S.1 a.2.1 a.2.2 with
      | some n => if decide (0 ≤ n) && (Nat.ble n.toNat 60000000 && (Nat.ble (S.2.2.2.2.2.1 + 1) RC && Nat.ble (S.2.2.2.2.2.2 + n.toNat) RS)) then some [(pc, (S.1, S.2.1, (2, S.2.2.2.1.length, 0) :: st, S.2.2.2.1 ++ [(2, 4, 0, (0, 0), List.replicate n.toNat (3, 0, 0))], S.2.2.2.2.1, S.2.2.2.2.2.1 + 1, S.2.2.2.2.2.2 + n.toNat))] else none
      | none => none) else none
  | _ => none
theorem rf_one_iv {E : rf_EV} {g : Nat} {d n : Int} (h : rf_one E g d = some n) : ∃ z, rf_gi E g = some z ∧ z.1 + d = n ∧ z.2.1 + d = n := by
  unfold rf_one at h
  split at h
  next q hq =>
    split at h
    next hz =>
      cases h
      exact ⟨q, hq, rfl, by omega⟩
    next => cases h
  next => cases h
theorem rf_fl_mem {FL : List (Nat × Nat × Nat)} {idx : Nat} {q : Nat × Nat × Nat} (h : rf_fl FL idx = some q) : (idx, q.2.1, q.2.2) ∈ FL := by
  have h1 := List.mem_of_find?_eq_some h
  have h2 := List.find?_some h
  have e := Nat.eq_of_beq_eq_true h2
  rw [← e]
  exact h1
section
variable {p : Program} {l : Launch} {e : Env} {R : Room} {s : State} {m : MethodId} {args : Array Value} {below : List Frame} {meth : Method} {c : Code} {Q : State → Prop}
variable {cc : ByteArray} {D : va_G} {cl : List vw_C} {tys : List (ClassId × FieldType)} {A : Nat → Prop} {H0 : Heap} {xt : Nat → Nat} {nL : Nat} {ρ0 : List Int × List Nat}
variable {CO : String}
theorem rf_t_get (hx : p.tables.exec = Jvm.exec) (hb : c.code = cc) {own : String} {Ts : List Cond} {ct : List (Nat → FieldType)} (hts : ∀ w ∈ Ts, w.before args s = true) (hcl : rf_CL cl ct Ts) (hown : s.vm.findClass own = some m.cls) (hK : va_K D cl tys s) {FL : List (Nat × Nat × Nat)} (hFL : rf_FLok own cl FL args s) {pc idx : Nat} {S : rf_AS} {ss : List (Nat × rf_AS)} (hd : decode cc pc = .ok (.getfield idx, 3)) (h : rf_s_get FL idx (pc + 3) S = some ss) (kk : rf_K p l e R s m args below meth c Q D cl tys A H0 xt nL ρ0 ss) : rf_G p l e R s m args below meth c Q D cl tys A H0 xt nL ρ0 pc S := by
  obtain ⟨E, L, st, w, nn⟩ := S
  unfold rf_s_get at h
  dsimp only at h
  split at h
  next a st' q hq =>
    split at h
    next ha =>
      obtain ⟨t, g, d⟩ := a
      cases Nat.eq_of_beq_eq_true ha
      split at h
      next ce hce =>
        split at h
        next hc =>
          simp only [Bool.and_eq_true] at hc
          obtain ⟨cs, ci, cb, civ, cav⟩ := ce
          cases Nat.eq_of_beq_eq_true hc.1
          cases Nat.eq_of_beq_eq_true hc.2
          split at h
          next v hv =>
            cases h
            exact rf_o_get hx hb hts hcl hown hK hFL (rf_fl_mem hq) hce hv hd (kk _ List.mem_cons_self)
          next => cases h
        next => cases h
      next => cases h
    next => cases h
  next => cases h
theorem rf_t_put (hx : p.tables.exec = Jvm.exec) (hb : c.code = cc) {own : String} {Ts : List Cond} {ct : List (Nat → FieldType)} (hts : ∀ w ∈ Ts, w.before args s = true) (hcl : rf_CL cl ct Ts) (hown : s.vm.findClass own = some m.cls) (hK : va_K D cl tys s) {FL : List (Nat × Nat × Nat)} (hFL : rf_FLok own cl FL args s) {oc : Nat} {ini : Bool} (hoc : ∀ C, cl[oc]? = some C → C.1 = own) (hini : ini = true → meth.name = "<init>") {pc idx : Nat} {S : rf_AS} {ss : List (Nat × rf_AS)} (hd : decode cc pc = .ok (.putfield idx, 3)) (h : rf_s_put cl ct FL oc ini idx (pc + 3) S = some ss) (kk : rf_K p l e R s m args below meth c Q D cl tys A H0 xt nL ρ0 ss) : rf_G p l e R s m args below meth c Q D cl tys A H0 xt nL ρ0 pc S := by
  obtain ⟨E, L, st, w, fs, nc, ns⟩ := S
  unfold rf_s_put at h
  dsimp only at h
  split at h
  next v a st' q hq =>
    split at h
    next ha =>
      obtain ⟨t, g, d⟩ := a
      cases Nat.eq_of_beq_eq_true ha
      split at h
      next ce ty C hce hty hC =>
        split at h
        next hc =>
          simp only [Bool.and_eq_true, Bool.or_eq_true, Bool.not_eq_true'] at hc
          obtain ⟨h1, h2, h3, h4, h5⟩ := hc
          obtain ⟨cs, ci, cb, civ, cav⟩ := ce
          cases Nat.eq_of_beq_eq_true h1
          cases Nat.eq_of_beq_eq_true h2
          cases h
          obtain ⟨C0, T0, N0⟩ := C
          refine rf_o_put hx hb hts hcl hown hK hFL (rf_fl_mem hq) hce (Nat.le_of_ble_eq_true h3) hty h4 hC ?_ hd (kk _ List.mem_cons_self)
          rcases h5 with h5 | h5
          · exact Or.inl h5
          · refine Or.inr ⟨hini h5.1, ?_⟩
            have e := Nat.eq_of_beq_eq_true h5.2
            rw [e] at hC
            exact hoc _ hC
        next => cases h
      next => cases h
    next => cases h
  next => cases h
theorem rf_sames {ρ : List Int} {E : rf_EV} (hE : rf_okE ρ E) : ∀ {as bs : List rf_AV} {vs ys : List Int}, rf_all2 (fun a b => rf_same E a.2.1 a.2.2 b.2.1 b.2.2) as bs = true → rf_L (rf_num ρ) as vs → rf_L (rf_num ρ) bs ys → vs = ys
  | [], [], [], [], _, _, _ => rfl
  | a :: as, b :: bs, v :: vs, y :: ys, h, h1, h2 => by
    simp only [rf_all2, Bool.and_eq_true] at h
    obtain ⟨r, r1, r2⟩ := h1.1
    obtain ⟨q, q1, q2⟩ := h2.1
    have := rf_same_spec hE h.1 r1 q1
    rw [rf_sames hE h.2 h1.2 h2.2, r2, q2, this]
  | [], _ :: _, _, _, h, _, _ => by simp [rf_all2] at h
  | _ :: _, [], _, _, h, _, _ => by simp [rf_all2] at h
  | [], [], _ :: _, _, _, h1, _ => h1.elim
  | [], [], [], _ :: _, _, _, h2 => h2.elim
  | _ :: _, _ :: _, [], _, _, h1, _ => h1.elim
  | _ :: _, _ :: _, _ :: _, [], _, _, h2 => h2.elim
theorem rf_o_aldm {pc q kd n : Nat} {ty : FieldType} {dd : Int} {iv : Int × Int} {avs : List rf_AV} {i v0 : rf_AV} {E : rf_EV} {L : rf_LC} {st : List rf_AV} {w : List rf_AC} {fs : List rf_FC} {nc ns : Nat} (hkd : kd ≠ 1) (hty : ∀ (cA : ClassId) (ty' : FieldType), tys[kd]? = some (cA, ty') → ty' = ty) (hw0 : w[q]? = some (1, kd, n, iv, avs)) (hi : rf_inb E i n = true) (hm : rf_memo E q i fs = some v0)
    (row : ∀ (a : Nat) (ws : va_W) (H : Heap) (locs : List Loc) (ls : Array Slot) (rest : List Value) (cA : ClassId) (f : Nat → Int32) (x : Int32), va_P D cl ws H → ws[q]? = some (a, .inl (cA, n, .inl f)) → tys[kd]? = some (cA, ty) → vp_in x n → W p l e R s m args below meth c H locs nc ns Q (F0 m (pc + 1) ls (.int (f x.toNatClampNeg) :: rest)) → W p l e R s m args below meth c H locs nc ns Q (F0 m pc ls (.int x :: .ref a :: rest)))
    (kk : rf_G p l e R s m args below meth c Q D cl tys A H0 xt nL ρ0 (pc + 1) (E, L, (0, v0.2.1, v0.2.2) :: st, w, fs, nc, ns)) : rf_G p l e R s m args below meth c Q D cl tys A H0 xt nL ρ0 pc (E, L, i :: (2, q, dd) :: st, w, fs, nc, ns) := by
  intro ρ ad ws H locs ls stc h
  have hs := h.2.2.2.2.2.2
  match stc, h, hs with
  | v :: v2 :: stc, h, hs =>
    obtain ⟨h00, hE, had, hw, hh, hlv, -⟩ := id h
    obtain ⟨x, rfl, x1, x2, x3, x4, x5, -⟩ := rf_inb_spec hE hi hs.1
    obtain ⟨a0, e, h1, h2, cA, ty', t1, h3⟩ := rf_ws_at hw had hw0
    obtain ⟨a1, h4, rfl⟩ := rf_gv_ref hs.2.1
    rw [h2] at h4
    cases h4
    rcases h3 with ⟨-, f, rfl, hf⟩ | ⟨hz, -⟩
    · cases hty cA ty' t1
      refine row a0 ws H locs ls stc cA f x hh.1 h1 t1 x1 (kk ρ ad ws H locs ls _ ⟨h00, hE, had, hw, hh, hlv, ⟨?_, hs.2.2⟩⟩)
      have hes : (ws.map Prod.snd)[q]? = some (.inl (cA, n, .inl f)) := by rw [List.getElem?_map, h1]; rfl
      obtain ⟨g, g1, g2⟩ := List.exists_of_findSome?_eq_some hm
      split at g2
      next q' j v' =>
        split at g2
        next hc =>
          cases g2
          simp only [Bool.and_eq_true] at hc
          obtain ⟨xs, k1, k2⟩ := hh.2.2.2 _ g1
          match xs, k1 with
          | [jv, vv], k1 =>
            obtain ⟨⟨r1, p1, p2⟩, ⟨r2, p3, p4⟩, -⟩ := k1
            obtain ⟨r3, p5, p6⟩ := x5
            have hsame := rf_same_spec hE hc.2 p1 p5
            dsimp only [List.map] at k2
            rw [← Nat.eq_of_beq_eq_true hc.1, hes] at k2
            obtain ⟨c1, n1, f1, q1, q2, q3⟩ := k2
            cases q1
            exact ⟨_, rfl, r2, p3, by rw [x4]; rw [← show jv = x.toInt by omega, q3]; exact p4⟩
        next => cases g2
      next => cases g2
    · exact absurd hz hkd
theorem rf_o_aldc {pc q kd n : Nat} {ty : FieldType} {dd : Int} {iv : Int × Int} {avs : List rf_AV} {i v0 : rf_AV} {E : rf_EV} {L : rf_LC} {st : List rf_AV} {w : List rf_AC} {fs : List rf_FC} {nc ns : Nat} (hkd : kd ≠ 1) (hty : ∀ (cA : ClassId) (ty' : FieldType), tys[kd]? = some (cA, ty') → ty' = ty) (hw0 : w[q]? = some (1, kd, n, iv, avs)) (hi : rf_inb E i n = true) (hm : rf_memc E q i fs = some v0)
    (row : ∀ (a : Nat) (ws : va_W) (H : Heap) (locs : List Loc) (ls : Array Slot) (rest : List Value) (cA : ClassId) (f : Nat → Int32) (x : Int32), va_P D cl ws H → ws[q]? = some (a, .inl (cA, n, .inl f)) → tys[kd]? = some (cA, ty) → vp_in x n → W p l e R s m args below meth c H locs nc ns Q (F0 m (pc + 1) ls (.int (f x.toNatClampNeg) :: rest)) → W p l e R s m args below meth c H locs nc ns Q (F0 m pc ls (.int x :: .ref a :: rest)))
    (kk : rf_G p l e R s m args below meth c Q D cl tys A H0 xt nL ρ0 (pc + 1) (E, L, (0, v0.2.1, v0.2.2) :: st, w, fs, nc, ns)) : rf_G p l e R s m args below meth c Q D cl tys A H0 xt nL ρ0 pc (E, L, i :: (2, q, dd) :: st, w, fs, nc, ns) := by
  intro ρ ad ws H locs ls stc h
  have hs := h.2.2.2.2.2.2
  match stc, h, hs with
  | v :: v2 :: stc, h, hs =>
    obtain ⟨h00, hE, had, hw, hh, hlv, -⟩ := id h
    obtain ⟨x, rfl, x1, x2, x3, x4, x5, -⟩ := rf_inb_spec hE hi hs.1
    obtain ⟨a0, e, h1, h2, cA, ty', t1, h3⟩ := rf_ws_at hw had hw0
    obtain ⟨a1, h4, rfl⟩ := rf_gv_ref hs.2.1
    rw [h2] at h4
    cases h4
    rcases h3 with ⟨-, f, rfl, hf⟩ | ⟨hz, -⟩
    · cases hty cA ty' t1
      refine row a0 ws H locs ls stc cA f x hh.1 h1 t1 x1 (kk ρ ad ws H locs ls _ ⟨h00, hE, had, hw, hh, hlv, ⟨?_, hs.2.2⟩⟩)
      have hes : (ws.map Prod.snd)[q]? = some (.inl (cA, n, .inl f)) := by rw [List.getElem?_map, h1]; rfl
      obtain ⟨g, g1, g2⟩ := List.exists_of_findSome?_eq_some hm
      split at g2
      next q' xs =>
        split at g2
        next hc =>
          cases Nat.eq_of_beq_eq_true hc
          obtain ⟨zs, z1, z2⟩ := rf_f30 (hh.2.2.2 _ g1) hes
          obtain ⟨g', g3, g4⟩ := List.exists_of_findSome?_eq_some g2
          split at g4
          next j v' ys =>
            split at g4
            next hc2 =>
              cases g4
              simp only [Bool.and_eq_true] at hc2
              obtain ⟨us, u1, u2⟩ := hh.2.2.2 _ g3
              match us, u1 with
              | jv :: vv :: us, u1 =>
                obtain ⟨⟨r1, p1, p2⟩, ⟨r2, p3, p4⟩, u3⟩ := u1
                obtain ⟨r3, p5, p6⟩ := x5
                have hsame := rf_same_spec hE hc2.1 p1 p5
                have e1 : us = zs := rf_sames hE hc2.2 u3 z1
                obtain ⟨u4, u5⟩ := u2
                have hv := z2 x.toNatClampNeg (by rw [x4]; omega)
                exact ⟨_, rfl, r2, p3, by rw [hv, x4, ← show jv = x.toInt by omega, ← e1, ← u5]; exact p4⟩
            next => cases g4
          next => cases g4
        next => cases g2
      next => cases g2
    · exact absurd hz hkd
theorem rf_t_ald {kd : Nat} {ty : FieldType} {pc : Nat} {S : rf_AS} {ss : List (Nat × rf_AS)} (hx : p.tables.exec = Jvm.exec) (hb : c.code = cc) (hK : va_K D cl tys s) (hTY : rf_TY tys CO) (hkd : kd ≠ 1) (hty : ([.int, .long, .byte, .short, .object CO] : List FieldType)[kd]? = some ty) (h3d : kd = 0 → decode cc pc = .ok (.iaload, 1))
    (row : ∀ (q n : Nat) (a : Nat) (ws : va_W) (H : Heap) (locs : List Loc) (nc ns : Nat) (ls : Array Slot) (rest : List Value) (cA : ClassId) (f : Nat → Int32) (x : Int32), va_P D cl ws H → ws[q]? = some (a, .inl (cA, n, .inl f)) → tys[kd]? = some (cA, ty) → vp_in x n → W p l e R s m args below meth c H locs nc ns Q (F0 m (pc + 1) ls (.int (f x.toNatClampNeg) :: rest)) → W p l e R s m args below meth c H locs nc ns Q (F0 m pc ls (.int x :: .ref a :: rest)))
    (h : rf_s_ald kd (pc + 1) S = some ss) (kk : rf_K p l e R s m args below meth c Q D cl tys A H0 xt nL ρ0 ss) : rf_G p l e R s m args below meth c Q D cl tys A H0 xt nL ρ0 pc S := by
  obtain ⟨E, L, st, w, fs, nc, ns⟩ := S
  unfold rf_s_ald at h
  dsimp only at h
  split at h
  next i a st' =>
    split at h
    next ha =>
      obtain ⟨t, g, d⟩ := a
      cases Nat.eq_of_beq_eq_true ha
      split at h
      next ce hce =>
        split at h
        next hc =>
          simp only [Bool.and_eq_true] at hc
          obtain ⟨h1, h2, h3⟩ := hc
          obtain ⟨cs, ci, cb, civ, cav⟩ := ce
          cases Nat.eq_of_beq_eq_true h1
          cases Nat.eq_of_beq_eq_true h2
          split at h
          next v hv =>
            cases h
            exact rf_o_aldm hkd (fun cA ty' ht => rf_TY_at hTY ht hty) hce h3 hv (fun a ws H locs ls rest cA f x => row g cb a ws H locs nc ns ls rest cA f x) (kk _ List.mem_cons_self)
          next =>
          split at h
          next v hv =>
            cases h
            exact rf_o_aldc hkd (fun cA ty' ht => rf_TY_at hTY ht hty) hce h3 hv (fun a ws H locs ls rest cA f x => row g cb a ws H locs nc ns ls rest cA f x) (kk _ List.mem_cons_self)
          next =>
          cases h
          exact rf_o_ald hkd (fun cA ty' ht => rf_TY_at hTY ht hty) hce h3 (fun a ws H locs ls rest cA f x => row g cb a ws H locs nc ns ls rest cA f x) (kk _ List.mem_cons_self)
        next =>
          split at h
          next hc =>
            simp only [Bool.and_eq_true] at hc
            obtain ⟨h1, h2, h3, h4⟩ := hc
            obtain ⟨cs, ci, cb, civ, cav⟩ := ce
            cases Nat.eq_of_beq_eq_true h1
            cases Nat.eq_of_beq_eq_true h3
            cases h
            have hk0 := Nat.eq_of_beq_eq_true h2
            exact rf_o_iald3 hx hb hK (fun cA ty' ht => rf_TY_at hTY ht rfl) (h3d hk0) hce h4 kk
          next => cases h
      next => cases h
    next => cases h
  next => cases h
theorem rf_t_tld {xs : List (List Int)} {pc : Nat} {S : rf_AS} {ss : List (Nat × rf_AS)} (hx : p.tables.exec = Jvm.exec) (hb : c.code = cc) (hH : H0 = s.heap) (hX : rf_EX xs xt A s) (hd : decode cc pc = .ok (.iaload, 1)) (h : rf_s_tld xs (pc + 1) S = some ss) (kk : rf_K p l e R s m args below meth c Q D cl tys A H0 xt nL ρ0 ss) : rf_G p l e R s m args below meth c Q D cl tys A H0 xt nL ρ0 pc S := by
  obtain ⟨E, L, st, w, nn⟩ := S
  unfold rf_s_tld at h
  dsimp only at h
  split at h
  next i a st' =>
    split at h
    next ha =>
      obtain ⟨t, g, d⟩ := a
      cases Nat.eq_of_beq_eq_true ha
      split at h
      next cs hcs =>
        split at h
        next hi =>
          cases h
          exact rf_o_tld hx hb hH hX hcs hi hd (kk _ List.mem_cons_self)
        next => cases h
      next => cases h
    next => cases h
  next => cases h
theorem rf_t_ast {kd : Nat} {ty : FieldType} {pc : Nat} {S : rf_AS} {ss : List (Nat × rf_AS)} (hx : p.tables.exec = Jvm.exec) (hb : c.code = cc) (hK : va_K D cl tys s) (hTY : rf_TY tys CO) (hkd : kd ≠ 1) (hty : ([.int, .long, .byte, .short, .object CO] : List FieldType)[kd]? = some ty) (h3d : kd = 0 → decode cc pc = .ok (.iastore, 1))
    (row : ∀ (q n : Nat) (a : Nat) (ws : va_W) (H : Heap) (locs : List Loc) (nc ns : Nat) (ls : Array Slot) (rest : List Value) (cA : ClassId) (f : Nat → Int32) (x y : Int32), va_P D cl ws H → va_D A ws → va_S A H0 H locs → ws[q]? = some (a, .inl (cA, n, .inl f)) → tys[kd]? = some (cA, ty) → vp_in x n →
      (∀ (H1 : Heap) (locs1 : List Loc), va_P D cl (ws.set q (a, .inl (cA, n, .inl (upd f x.toNatClampNeg (rf_nrm kd y))))) H1 → va_D A (ws.set q (a, .inl (cA, n, .inl (upd f x.toNatClampNeg (rf_nrm kd y))))) → va_S A H0 H1 locs1 → W p l e R s m args below meth c H1 locs1 nc ns Q (F0 m (pc + 1) ls rest)) → W p l e R s m args below meth c H locs nc ns Q (F0 m pc ls (.int y :: .int x :: .ref a :: rest)))
    (h : rf_s_ast kd (pc + 1) S = some ss) (kk : rf_K p l e R s m args below meth c Q D cl tys A H0 xt nL ρ0 ss) : rf_G p l e R s m args below meth c Q D cl tys A H0 xt nL ρ0 pc S := by
  obtain ⟨E, L, st, w, fs, nc, ns⟩ := S
  unfold rf_s_ast at h
  dsimp only at h
  split at h
  next v i a st' =>
    split at h
    next ha =>
      simp only [Bool.and_eq_true] at ha
      obtain ⟨t, g, d⟩ := a
      cases Nat.eq_of_beq_eq_true ha.1
      split at h
      next ce hce =>
        split at h
        next hc =>
          simp only [Bool.and_eq_true] at hc
          obtain ⟨h1, h2, h3⟩ := hc
          obtain ⟨cs, ci, cb, civ, cav⟩ := ce
          cases Nat.eq_of_beq_eq_true h1
          cases Nat.eq_of_beq_eq_true h2
          split at h
          next tt ht =>
            cases h
            exact rf_o_ast hkd (fun cA ty' ht => rf_TY_at hTY ht hty) hce h3 (Nat.eq_of_beq_eq_true ha.2) ht (fun a ws H locs ls rest cA f x y => row g cb a ws H locs nc ns ls rest cA f x y) (kk _ List.mem_cons_self)
          next => cases h
        next =>
          split at h
          next hc =>
            simp only [Bool.and_eq_true] at hc
            obtain ⟨h1, h2, h3, h4⟩ := hc
            obtain ⟨cs, ci, cb, civ, cav⟩ := ce
            cases Nat.eq_of_beq_eq_true h1
            cases Nat.eq_of_beq_eq_true h3
            split at h
            next j hj =>
              cases h
              obtain ⟨z, z1, z2, z3⟩ := rf_one_iv hj
              have hin := h4
              simp only [rf_inb, Bool.and_eq_true] at hin
              have hj0 : 0 ≤ j := by
                have q := hin.2
                rw [z1] at q
                simp only [Bool.and_eq_true, decide_eq_true_eq] at q
                omega
              exact rf_o_iast3 (j := j.toNat) hx hb hK (fun cA ty' ht => rf_TY_at hTY ht rfl) (h3d (Nat.eq_of_beq_eq_true h2)) hce h4 (Nat.eq_of_beq_eq_true ha.2) z1 (by omega) (by omega) (kk _ List.mem_cons_self)
            next => cases h
          next => cases h
      next => cases h
    next => cases h
  next => cases h
theorem rf_t_lald {pc : Nat} {S : rf_AS} {ss : List (Nat × rf_AS)} (hx : p.tables.exec = Jvm.exec) (hb : c.code = cc) (hK : va_K D cl tys s) (hTY : rf_TY tys CO) (hd : decode cc pc = .ok (.laload, 1)) (h : rf_s_lald (pc + 1) S = some ss) (kk : rf_K p l e R s m args below meth c Q D cl tys A H0 xt nL ρ0 ss) : rf_G p l e R s m args below meth c Q D cl tys A H0 xt nL ρ0 pc S := by
  obtain ⟨E, L, st, w, fs, nc, ns⟩ := S
  unfold rf_s_lald at h
  dsimp only at h
  split at h
  next i a st' =>
    split at h
    next ha =>
      obtain ⟨t, g, d⟩ := a
      cases Nat.eq_of_beq_eq_true ha
      split at h
      next ce hce =>
        split at h
        next hc =>
          simp only [Bool.and_eq_true] at hc
          obtain ⟨h1, h2, h3⟩ := hc
          obtain ⟨cs, ci, cb, civ, cav⟩ := ce
          cases Nat.eq_of_beq_eq_true h1
          cases Nat.eq_of_beq_eq_true h2
          cases h
          exact rf_o_lald hx hb hK (fun cA ty' ht => rf_TY_at hTY ht rfl) hd hce h3 (kk _ List.mem_cons_self)
        next => cases h
      next => cases h
    next => cases h
  next => cases h
theorem rf_t_last {pc : Nat} {S : rf_AS} {ss : List (Nat × rf_AS)} (hx : p.tables.exec = Jvm.exec) (hb : c.code = cc) (hK : va_K D cl tys s) (hTY : rf_TY tys CO) (hd : decode cc pc = .ok (.lastore, 1)) (h : rf_s_last (pc + 1) S = some ss) (kk : rf_K p l e R s m args below meth c Q D cl tys A H0 xt nL ρ0 ss) : rf_G p l e R s m args below meth c Q D cl tys A H0 xt nL ρ0 pc S := by
  obtain ⟨E, L, st, w, fs, nc, ns⟩ := S
  unfold rf_s_last at h
  dsimp only at h
  split at h
  next v i a st' =>
    split at h
    next ha =>
      simp only [Bool.and_eq_true] at ha
      obtain ⟨t, g, d⟩ := a
      cases Nat.eq_of_beq_eq_true ha.1
      split at h
      next ce z hce hz =>
        split at h
        next hc =>
          simp only [Bool.and_eq_true] at hc
          obtain ⟨h1, h2, h3⟩ := hc
          obtain ⟨cs, ci, cb, civ, cav⟩ := ce
          cases Nat.eq_of_beq_eq_true h1
          cases Nat.eq_of_beq_eq_true h2
          cases h
          exact rf_o_last hx hb hK (fun cA ty' ht => rf_TY_at hTY ht rfl) hd hce h3 (Nat.eq_of_beq_eq_true ha.2) hz (kk _ List.mem_cons_self)
        next => cases h
      next => cases h
    next => cases h
  next => cases h
theorem rf_t_aald {pc : Nat} {S : rf_AS} {ss : List (Nat × rf_AS)} (hx : p.tables.exec = Jvm.exec) (hb : c.code = cc) (hK : va_K D cl tys s) (hTY : rf_TY tys CO) (hd : decode cc pc = .ok (.aaload, 1)) (h : rf_s_aald (pc + 1) S = some ss) (kk : rf_K p l e R s m args below meth c Q D cl tys A H0 xt nL ρ0 ss) : rf_G p l e R s m args below meth c Q D cl tys A H0 xt nL ρ0 pc S := by
  obtain ⟨E, L, st, w, nn⟩ := S
  unfold rf_s_aald at h
  dsimp only at h
  split at h
  next i a st' =>
    split at h
    next ha =>
      obtain ⟨t, g, d⟩ := a
      cases Nat.eq_of_beq_eq_true ha
      split at h
      next ce hce =>
        split at h
        next hc =>
          simp only [Bool.and_eq_true] at hc
          obtain ⟨h1, h2, h3⟩ := hc
          obtain ⟨cs, ci, cb, civ, cav⟩ := ce
          cases Nat.eq_of_beq_eq_true h1
          cases Nat.eq_of_beq_eq_true h2
          cases h
          exact rf_o_aald hx hb hK (fun cA ty' ht => rf_TY_at hTY ht rfl) hd hce h3 kk
        next => cases h
      next => cases h
    next => cases h
  next => cases h
theorem rf_t_aast {co : Nat} {pc : Nat} {S : rf_AS} {ss : List (Nat × rf_AS)} (hx : p.tables.exec = Jvm.exec) (hb : c.code = cc) (hK : va_K D cl tys s) (hTY : rf_TY tys CO) (hco : ∃ T N, cl[co]? = some (CO, T, N)) (hd : decode cc pc = .ok (.aastore, 1)) (h : rf_s_aast co (pc + 1) S = some ss) (kk : rf_K p l e R s m args below meth c Q D cl tys A H0 xt nL ρ0 ss) : rf_G p l e R s m args below meth c Q D cl tys A H0 xt nL ρ0 pc S := by
  obtain ⟨E, L, st, w, fs, nc, ns⟩ := S
  unfold rf_s_aast at h
  dsimp only at h
  split at h
  next v i a st' =>
    split at h
    next ha =>
      simp only [Bool.and_eq_true] at ha
      obtain ⟨t, g, d⟩ := a
      obtain ⟨tv, gv, dv⟩ := v
      cases Nat.eq_of_beq_eq_true ha.1
      cases Nat.eq_of_beq_eq_true ha.2
      split at h
      next ce cv j hce hcv hj =>
        split at h
        next hc =>
          simp only [Bool.and_eq_true] at hc
          obtain ⟨h1, h2, h3, h4, h5⟩ := hc
          obtain ⟨cs, ci, cb, civ, cav⟩ := ce
          obtain ⟨vs, vi, vb, viv, vav⟩ := cv
          cases Nat.eq_of_beq_eq_true h1
          cases Nat.eq_of_beq_eq_true h2
          cases Nat.eq_of_beq_eq_true h4
          cases Nat.eq_of_beq_eq_true h5
          cases h
          obtain ⟨T, N, hcl⟩ := hco
          obtain ⟨z, z1, z2, z3⟩ := rf_one_iv hj
          have hin := h3
          simp only [rf_inb, Bool.and_eq_true] at hin
          have hj0 : 0 ≤ j := by
            have q := hin.2
            rw [z1] at q
            simp only [Bool.and_eq_true, decide_eq_true_eq] at q
            omega
          exact rf_o_aast (j := j.toNat) hx hb hK (fun cA ty' ht => rf_TY_at hTY ht rfl) hcl hd hce hcv h3 z1 (by omega) (by omega) (kk _ List.mem_cons_self)
        next => cases h
      next => cases h
    next => cases h
  next => cases h
theorem rf_t_alen {pc : Nat} {S : rf_AS} {ss : List (Nat × rf_AS)} (hx : p.tables.exec = Jvm.exec) (hb : c.code = cc) (hK : va_K D cl tys s) (hd : decode cc pc = .ok (.arraylength, 1)) (h : rf_s_alen (pc + 1) S = some ss) (kk : rf_K p l e R s m args below meth c Q D cl tys A H0 xt nL ρ0 ss) : rf_G p l e R s m args below meth c Q D cl tys A H0 xt nL ρ0 pc S := by
  obtain ⟨E, L, st, w, nn⟩ := S
  unfold rf_s_alen at h
  dsimp only at h
  split at h
  next a st' =>
    split at h
    next ha =>
      obtain ⟨t, g, d⟩ := a
      cases Nat.eq_of_beq_eq_true ha
      split at h
      next ce hce =>
        split at h
        next hc =>
          simp only [Bool.and_eq_true] at hc
          obtain ⟨cs, ci, cb, civ, cav⟩ := ce
          cases Nat.eq_of_beq_eq_true hc.1
          cases h
          have := Nat.le_of_ble_eq_true hc.2
          exact rf_o_alen (b := 0) hx hb hK hce (by dsimp only at this; omega) hd (kk _ List.mem_cons_self)
        next => cases h
      next => cases h
    next => cases h
  next => cases h
theorem rf_t_new {own : String} {Ts : List Cond} {ct : List (Nat → FieldType)} {NL : List (Nat × Nat)} {RC RS pc idx : Nat} {S : rf_AS} {ss : List (Nat × rf_AS)} (hx : p.tables.exec = Jvm.exec) (hb : c.code = cc) (hts : ∀ w ∈ Ts, w.before args s = true) (hcl : rf_CL cl ct Ts) (hown : s.vm.findClass own = some m.cls) (hK : va_K D cl tys s) (hA : ∀ q, H0.size ≤ q → A q) (hNL : rf_NLok own cl NL args s) (hRC : RC ≤ R.cells) (hRS : RS ≤ R.slots) (hd : decode cc pc = .ok (.new idx, 3)) (h : rf_s_new cl ct NL RC RS idx (pc + 3) S = some ss) (kk : rf_K p l e R s m args below meth c Q D cl tys A H0 xt nL ρ0 ss) : rf_G p l e R s m args below meth c Q D cl tys A H0 xt nL ρ0 pc S := by
  obtain ⟨E, L, st, w, fs, nc, ns⟩ := S
  unfold rf_s_new at h
  dsimp only at h
  split at h
  next q hq =>
    split at h
    next C ty hC hty =>
      split at h
      next hc =>
        simp only [Bool.and_eq_true] at hc
        cases h
        obtain ⟨C0, T0, N0⟩ := C
        have h1 := List.mem_of_find?_eq_some hq
        have e2 := List.find?_some hq
        have e := Nat.eq_of_beq_eq_true e2
        obtain ⟨qi, qc⟩ := q
        dsimp only at e
        subst e
        exact rf_o_new hx hb hts hcl hown hK hA hNL h1 hC hty hc.1 (Nat.le_trans (Nat.le_of_ble_eq_true hc.2.1) hRC) (Nat.le_trans (Nat.le_of_ble_eq_true hc.2.2) hRS) hd (kk _ List.mem_cons_self)
      next => cases h
    next => cases h
  next => cases h
theorem rf_t_newa {at' : ArrayType} {RC RS pc : Nat} {S : rf_AS} {ss : List (Nat × rf_AS)} (hx : p.tables.exec = Jvm.exec) (hb : c.code = cc) (hK : va_K D cl tys s) (hTY : rf_TY tys CO) (hA : ∀ q, H0.size ≤ q → A q) (harr : ∀ t : ArrayType, rf_akd t ≤ 3 → (Cond.arrayClass (newarray.typeOf t)).before args s = true) (hRC : RC ≤ R.cells) (hRS : RS ≤ R.slots) (hd : decode cc pc = .ok (.newarray at', 2)) (h : rf_s_newa at' RC RS (pc + 2) S = some ss) (kk : rf_K p l e R s m args below meth c Q D cl tys A H0 xt nL ρ0 ss) : rf_G p l e R s m args below meth c Q D cl tys A H0 xt nL ρ0 pc S := by
  obtain ⟨E, L, st, w, fs, nc, ns⟩ := S
  unfold rf_s_newa at h
  dsimp only at h
  split at h
  next a st' =>
    split at h
    next ha =>
      simp only [Bool.and_eq_true] at ha
      have hk := Nat.le_of_ble_eq_true ha.2
      split at h
      next n hn =>
        split at h
        next hc =>
          simp only [Bool.and_eq_true, decide_eq_true_eq] at hc
          obtain ⟨h1, h2, h3, h4⟩ := hc
          cases h
          obtain ⟨z, z1, z2, z3⟩ := rf_one_iv hn
          have hat : ∀ (k : Nat) (ty : FieldType), ([.int, .long, .byte, .short, .object CO] : List FieldType)[k]? = some ty → ∃ cA, tys[k]? = some (cA, ty) := by
            intro k ty hkt
            have e : (tys.map Prod.snd)[k]? = some ty := by rw [hTY]; exact hkt
            rw [List.getElem?_map] at e
            cases hz : tys[k]? with
            | none => rw [hz] at e; cases e
            | some q =>
              rw [hz] at e
              obtain ⟨cA, t⟩ := q
              cases e
              exact ⟨cA, rfl⟩
          have go : ∀ (ty : FieldType), (∃ cA, tys[rf_akd at']? = some (cA, ty)) → ((rf_akd at' = 0 ∧ at' = .int ∧ ty = .int) ∨ (rf_akd at' = 1 ∧ at' = .long ∧ ty = .long) ∨ (rf_akd at' = 2 ∧ at' = .byte ∧ ty = .byte) ∨ (rf_akd at' = 3 ∧ at' = .short ∧ ty = .short)) → rf_G p l e R s m args below meth c Q D cl tys A H0 xt nL ρ0 pc (E, L, a :: st', w, fs, nc, ns) := fun ty h5 h6 =>
            rf_o_newa (n := n.toNat) hx hb hK hA (harr at' hk) h5 h6 (Nat.eq_of_beq_eq_true ha.1) z1 (by omega) (by omega) (Nat.le_of_ble_eq_true h2) (Nat.le_trans (Nat.le_of_ble_eq_true h3) hRC) (Nat.le_trans (Nat.le_of_ble_eq_true h4) hRS) hd (kk _ List.mem_cons_self)
          cases at' with
          | int => exact go .int (hat 0 _ rfl) (Or.inl ⟨rfl, rfl, rfl⟩)
          | long => exact go .long (hat 1 _ rfl) (Or.inr (Or.inl ⟨rfl, rfl, rfl⟩))
          | byte => exact go .byte (hat 2 _ rfl) (Or.inr (Or.inr (Or.inl ⟨rfl, rfl, rfl⟩)))
          | short => exact go .short (hat 3 _ rfl) (Or.inr (Or.inr (Or.inr ⟨rfl, rfl, rfl⟩)))
          | boolean => exact absurd hk (by decide)
          | char => exact absurd hk (by decide)
          | float => exact absurd hk (by decide)
          | double => exact absurd hk (by decide)
        next => cases h
      next => cases h
    next => cases h
  next => cases h
theorem rf_t_anew {own : String} {AL : List Nat} {RC RS pc idx : Nat} {S : rf_AS} {ss : List (Nat × rf_AS)} (hx : p.tables.exec = Jvm.exec) (hb : c.code = cc) (hown : s.vm.findClass own = some m.cls) (hAL : ∀ i ∈ AL, (Cond.classLink own i CO).before args s = true) (hov : va_AO CO s) (hK : va_K D cl tys s) (hTY : rf_TY tys CO) (hA : ∀ q, H0.size ≤ q → A q) (hRC : RC ≤ R.cells) (hRS : RS ≤ R.slots) (hd : decode cc pc = .ok (.anewarray idx, 3)) (h : rf_s_anew AL RC RS idx (pc + 3) S = some ss) (kk : rf_K p l e R s m args below meth c Q D cl tys A H0 xt nL ρ0 ss) : rf_G p l e R s m args below meth c Q D cl tys A H0 xt nL ρ0 pc S := by
  obtain ⟨E, L, st, w, fs, nc, ns⟩ := S
  unfold rf_s_anew at h
  dsimp only at h
  split at h
  next a st' =>
    split at h
    next ha =>
      simp only [Bool.and_eq_true] at ha
      split at h
      next n hn =>
        split at h
        next hc =>
          simp only [Bool.and_eq_true, decide_eq_true_eq] at hc
          obtain ⟨h1, h2, h3, h4⟩ := hc
          cases h
          obtain ⟨z, z1, z2, z3⟩ := rf_one_iv hn
          have hat : ∃ cA, tys[4]? = some (cA, .object CO) := by
            have e : (tys.map Prod.snd)[4]? = some (.object CO) := by rw [hTY]; rfl
            rw [List.getElem?_map] at e
            cases hz : tys[4]? with
            | none => rw [hz] at e; cases e
            | some q =>
              rw [hz] at e
              obtain ⟨cA, t⟩ := q
              cases e
              exact ⟨cA, rfl⟩
          exact rf_o_anew (n := n.toNat) hx hb hown (hAL idx (List.contains_iff_mem.mp ha.2)) hov hK hA hat (Nat.eq_of_beq_eq_true ha.1) z1 (by omega) (by omega) (Nat.le_of_ble_eq_true h2) (Nat.le_trans (Nat.le_of_ble_eq_true h3) hRC) (Nat.le_trans (Nat.le_of_ble_eq_true h4) hRS) hd (kk _ List.mem_cons_self)
        next => cases h
      next => cases h
    next => cases h
  next => cases h
end
