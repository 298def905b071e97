/-! THE CHECKER, one step: entries of fields (entry, class, field), of classes (entry, class), of statics (entry, value), of constants (kind, entry, value), of methods (entry, kind, class, contracts), of arrays of objects; (own class, is a constructor, tell facts), (locals, frames, cells, slots, words) -/
abbrev rf_CX : Type := List (Nat × Nat × Nat) × List (Nat × Nat) × List (Nat × rf_AV) × List (Nat × Nat × rf_AV) × List (Nat × Nat × Nat × List rf_SP) × List Nat × (Nat × Bool × Bool) × (Nat × Nat × Nat × Nat × Nat)
abbrev rf_SS : Type := Option (List (Nat × rf_AS))
def rf_s_load (ok : Nat → Bool) (pc i : Nat) (S : rf_AS) : rf_SS := match rf_lget S.2.1 i with
  | some a => if ok a.1 then some [(pc, (S.1, S.2.1, a :: S.2.2.1, S.2.2.2))] else none
  | none => none
def rf_s_store (ok : Nat → Bool) (pc i nL : Nat) (S : rf_AS) : rf_SS := match S.2.2.1 with
  | a :: st => if ok a.1 && Nat.blt i nL then some [(pc, (S.1, rf_lset S.2.1 i a, st, S.2.2.2))] else none
  | [] => none
def rf_s_store2 (pc i nL : Nat) (S : rf_AS) : rf_SS := match S.2.2.1 with
  | a :: st => if Nat.beq a.1 1 && Nat.blt (i + 1) nL then some [(pc, (S.1, rf_lset2 S.2.1 i a, st, S.2.2.2))] else none
  | [] => none
def rf_s_bin (f : rf_EV → rf_AV → rf_AV → Option (rf_EV × rf_AV)) (t pc : Nat) (S : rf_AS) : rf_SS := match S.2.2.1 with
  | b :: a :: st => if Nat.beq a.1 t && Nat.beq b.1 t then (match f S.1 a b with
      | some r => some [(pc, (r.1, S.2.1, r.2 :: st, S.2.2.2))]
      | none => none) else none
  | _ => none
/-- what is told of a number that came of two: exactly, or as the machine's -/
def rf_bf (ex : Bool) (kd o : Nat) (df : Bool) (a b r : rf_AV) : Option rf_FC := if df then (if ex then some (kd, [], [a, b, r]) else some (35, [], [(0, 0, Int.ofNat o), a, b, r])) else none
/-- as rf_s_bin, and a fact of kind kd where 'ex' says that no wrap-around is, else of kind 35 -/
def rf_s_binf (f : rf_EV → rf_AV → rf_AV → Option (rf_EV × rf_AV)) (ex : rf_EV → rf_AV → rf_AV → Bool) (kd o : Nat) (df : Bool) (pc : Nat) (S : rf_AS) : rf_SS := match S.2.2.1 with
  | b :: a :: st => if Nat.beq a.1 0 && Nat.beq b.1 0 then (match f S.1 a b with
      | some r => some [(pc, (r.1, S.2.1, r.2 :: st, S.2.2.2.1, rf_oc (rf_bf (ex S.1 a b) kd o df a b r.2) S.2.2.2.2.1, S.2.2.2.2.2))]
      | none => none) else none
  | _ => none
def rf_lbf (o : Nat) (df : Bool) (a b r : rf_AV) : Option rf_FC := if df then some (35, [], [(0, 0, Int.ofNat o), (0, a.2.1, a.2.2), (0, b.2.1, b.2.2), (0, r.2.1, r.2.2)]) else none
/-- as rf_s_bin for longs (the second of tag tb), and a fact of kind 35 -/
def rf_s_lbinf (f : rf_EV → rf_AV → rf_AV → Option (rf_EV × rf_AV)) (tb o : Nat) (df : Bool) (pc : Nat) (S : rf_AS) : rf_SS := match S.2.2.1 with
  | b :: a :: st => if Nat.beq a.1 1 && Nat.beq b.1 tb then (match f S.1 a b with
      | some r => some [(pc, (r.1, S.2.1, r.2 :: st, S.2.2.2.1, rf_oc (rf_lbf o df a b r.2) S.2.2.2.2.1, S.2.2.2.2.2))]
      | none => none) else none
  | _ => none
def rf_uf (fresh : Bool) (o : Nat) (df : Bool) (a r : rf_AV) : Option rf_FC := if df && fresh then some (35, [], [(0, 0, Int.ofNat o), (0, a.2.1, a.2.2), (0, 0, 0), r]) else none
def rf_s_unf (f : rf_EV → rf_AV → Option (rf_EV × rf_AV)) (t o : Nat) (df : Bool) (pc : Nat) (S : rf_AS) : rf_SS := match S.2.2.1 with
  | a :: st => if Nat.beq a.1 t then (match f S.1 a with
      | some r => some [(pc, (r.1, S.2.1, r.2 :: st, S.2.2.2.1, rf_oc (rf_uf (!(Nat.beq r.1.1.length S.1.1.length)) o df a r.2) S.2.2.2.2.1, S.2.2.2.2.2))]
      | none => none) else none
  | _ => none
def rf_s_un (f : rf_EV → rf_AV → Option (rf_EV × rf_AV)) (t pc : Nat) (S : rf_AS) : rf_SS := match S.2.2.1 with
  | a :: st => if Nat.beq a.1 t then (match f S.1 a with
      | some r => some [(pc, (r.1, S.2.1, r.2 :: st, S.2.2.2))]
      | none => none) else none
  | _ => none
def rf_xadd (E : rf_EV) (a b : rf_AV) : Bool := match rf_gi E a.2.1, rf_gi E b.2.1 with
  | some q, some q' => rf_in32 (q.1 + a.2.2 + (q'.1 + b.2.2)) (q.2.1 + a.2.2 + (q'.2.1 + b.2.2))
  | _, _ => false
def rf_xsub (E : rf_EV) (a b : rf_AV) : Bool := match rf_gi E a.2.1, rf_gi E b.2.1 with
  | some q, some q' => rf_in32 (q.1 + a.2.2 - (q'.2.1 + b.2.2)) (q.2.1 + a.2.2 - (q'.1 + b.2.2))
  | _, _ => false
def rf_xmul (E : rf_EV) (a b : rf_AV) : Bool := match rf_gi E a.2.1, rf_gi E b.2.1 with
  | some q, some q' => decide (0 ≤ q.1 + a.2.2) && (decide (0 ≤ q'.1 + b.2.2) && decide ((q.2.1 + a.2.2) * (q'.2.1 + b.2.2) ≤ 2147483647))
  | _, _ => false
def rf_xdiv (E : rf_EV) (_ b : rf_AV) : Bool := match rf_gi E b.2.1 with
  | some q' => decide (1 ≤ q'.1 + b.2.2)
  | _ => false
def rf_s_icmp (k : Jvm.ClassFile.Cond) (off : Int) (pc : Nat) (S : rf_AS) : rf_SS := match S.2.2.1, rf_tgt pc off with
  | b :: a :: st, some t => if Nat.beq a.1 0 && Nat.beq b.1 0 then some (rf_opt t (rf_cnd k S.1 a b) S.2.1 st S.2.2.2 ++ rf_opt (pc + 3) (rf_cnd (rf_not k) S.1 a b) S.2.1 st S.2.2.2) else none
  | _, _ => none
def rf_s_if (k : Jvm.ClassFile.Cond) (off : Int) (pc : Nat) (S : rf_AS) : rf_SS := match S.2.2.1, rf_tgt pc off with
  | a :: st, some t => if Nat.beq a.1 0 then some (rf_opt t (rf_cnd k S.1 a (0, 0, 0)) S.2.1 st S.2.2.2 ++ rf_opt (pc + 3) (rf_cnd (rf_not k) S.1 a (0, 0, 0)) S.2.1 st S.2.2.2) else none
  | _, _ => none
def rf_i2l (E : rf_EV) (a : rf_AV) : Option (rf_EV × rf_AV) := some (E, (1, a.2.1, a.2.2))
def rf_tp (E : rf_EV) (_ _ : rf_AV) : Option (rf_EV × rf_AV) := some (rf_top E)
def rf_ltp (E : rf_EV) (_ _ : rf_AV) : Option (rf_EV × rf_AV) := some (rf_ltop E)
/-- shifts of longs: the count is an int -/
def rf_s_lsh (pc : Nat) (S : rf_AS) : rf_SS := match S.2.2.1 with
  | b :: a :: st => if Nat.beq a.1 1 && Nat.beq b.1 0 then some [(pc, ((rf_ltop S.1).1, S.2.1, (rf_ltop S.1).2 :: st, S.2.2.2))] else none
  | _ => none
section
variable {p : Program} {l : Launch} {e : Env} {R : Room} {s : State} {m : MethodId} {args : Array Value} {below : List Frame} {meth : Method} {c : Code} {Q : State → Prop}
variable {cc : ByteArray} {D : va_G} {cl : List vw_C} {tys : List (ClassId × FieldType)} {A : Nat → Prop} {H0 : Heap} {xt : Nat → Nat} {nL : Nat} {ρ0 : List Int × List Nat}
theorem rf_t_load {ok : Nat → Bool} {pc pc' i : Nat} {S : rf_AS} {ss : List (Nat × rf_AS)} (h : rf_s_load ok pc' i S = some ss)
    (row : ∀ (a : rf_AV), ok a.1 = true → ∀ (ρ : List Int) (ad : List Nat) (v : Value) (H : Heap) (locs : List Loc) (cells slots : Nat) (ls : Array Slot) (rest : List Value), rf_gv ρ ad xt a v → ls[i]? = some (.val v) → W p l e R s m args below meth c H locs cells slots Q (F0 m pc' ls (v :: rest)) → W p l e R s m args below meth c H locs cells slots Q (F0 m pc ls rest)) (kk : rf_K p l e R s m args below meth c Q D cl tys A H0 xt nL ρ0 ss) : rf_G p l e R s m args below meth c Q D cl tys A H0 xt nL ρ0 pc S := by
  obtain ⟨E, L, st, w, nn⟩ := S
  unfold rf_s_load at h
  split at h
  next a ha =>
    split at h
    next ho =>
      cases h
      exact rf_o_load ha (fun ρ ad v H locs ls rest => row a ho ρ ad v H locs nn.2.1 nn.2.2 ls rest) (kk _ List.mem_cons_self)
    next => cases h
  next => cases h
theorem rf_t_store {ok : Nat → Bool} {pc pc' i : Nat} {S : rf_AS} {ss : List (Nat × rf_AS)} (h : rf_s_store ok pc' i nL S = some ss)
    (row : ∀ (a : rf_AV), ok a.1 = true → i < nL → ∀ (ρ : List Int) (ad : List Nat) (v : Value) (H : Heap) (locs : List Loc) (cells slots : Nat) (ls : Array Slot) (rest : List Value) (lv : List (Nat × Value)), rf_gv ρ ad xt a v → lv_has ls nL lv → (∀ ls' : Array Slot, lv_has ls' nL ((i, v) :: lv.filter (fun q => !(q.1 == i) && !(q.1 + 1 == i && q.2.category == 2))) → W p l e R s m args below meth c H locs cells slots Q (F0 m pc' ls' rest)) → W p l e R s m args below meth c H locs cells slots Q (F0 m pc ls (v :: rest))) (kk : rf_K p l e R s m args below meth c Q D cl tys A H0 xt nL ρ0 ss) : rf_G p l e R s m args below meth c Q D cl tys A H0 xt nL ρ0 pc S := by
  obtain ⟨E, L, st, w, nn⟩ := S
  unfold rf_s_store at h
  dsimp only at h
  split at h
  next a st' =>
    split at h
    next ho =>
      cases h
      simp only [Bool.and_eq_true] at ho
      exact rf_o_store (fun ρ ad v H locs ls rest lv => row a ho.1 (Nat.le_of_ble_eq_true ho.2) ρ ad v H locs nn.2.1 nn.2.2 ls rest lv) (kk _ List.mem_cons_self)
    next => cases h
  next => cases h
theorem rf_t_store2 {pc pc' i : Nat} {S : rf_AS} {ss : List (Nat × rf_AS)} (h : rf_s_store2 pc' i nL S = some ss)
    (row : i + 1 < nL → ∀ (ρ : List Int) (ad : List Nat) (x : Int64) (H : Heap) (locs : List Loc) (cells slots : Nat) (ls : Array Slot) (rest : List Value) (lv : List (Nat × Value)), lv_has ls nL lv → (∀ ls' : Array Slot, lv_has ls' nL ((i, .long x) :: lv.filter (fun q => !(q.1 == i) && (!(q.1 == i + 1) && !(q.1 + 1 == i && q.2.category == 2)))) → W p l e R s m args below meth c H locs cells slots Q (F0 m pc' ls' rest)) → W p l e R s m args below meth c H locs cells slots Q (F0 m pc ls (.long x :: rest))) (kk : rf_K p l e R s m args below meth c Q D cl tys A H0 xt nL ρ0 ss) : rf_G p l e R s m args below meth c Q D cl tys A H0 xt nL ρ0 pc S := by
  obtain ⟨E, L, st, w, nn⟩ := S
  unfold rf_s_store2 at h
  dsimp only at h
  split at h
  next a st' =>
    split at h
    next ho =>
      cases h
      simp only [Bool.and_eq_true] at ho
      obtain ⟨t, g, d⟩ := a
      cases Nat.eq_of_beq_eq_true ho.1
      refine rf_o_store2 (fun ρ ad v H locs ls rest lv hv => ?_) (kk _ List.mem_cons_self)
      obtain ⟨x, rfl, -⟩ := rf_gv_long hv
      exact row (Nat.le_of_ble_eq_true ho.2) ρ ad x H locs nn.2.1 nn.2.2 ls rest lv
    next => cases h
  next => cases h
theorem rf_t_bin {f : rf_EV → rf_AV → rf_AV → Option (rf_EV × rf_AV)} {pc pc' : Nat} {S : rf_AS} {ss : List (Nat × rf_AS)} (h : rf_s_bin f 0 pc' S = some ss)
    (row : ∀ (ρ : List Int) (ad : List Nat) (E : rf_EV) (g : Nat) (d : Int) (g' : Nat) (d' : Int) (x y : Int32) (r : rf_EV × rf_AV) (H : Heap) (locs : List Loc) (cells slots : Nat) (ls : Array Slot) (rest : List Value), rf_okE ρ E → rf_gv ρ ad xt (0, g, d) (.int x) → rf_gv ρ ad xt (0, g', d') (.int y) → f E (0, g, d) (0, g', d') = some r → ∃ v', rf_res ρ ad xt r v' ∧ (W p l e R s m args below meth c H locs cells slots Q (F0 m pc' ls (v' :: rest)) → W p l e R s m args below meth c H locs cells slots Q (F0 m pc ls (.int y :: .int x :: rest)))) (kk : rf_K p l e R s m args below meth c Q D cl tys A H0 xt nL ρ0 ss) : rf_G p l e R s m args below meth c Q D cl tys A H0 xt nL ρ0 pc S := by
  obtain ⟨E, L, st, w, nn⟩ := S
  unfold rf_s_bin at h
  dsimp only at h
  split at h
  next b a st' =>
    split at h
    next ho =>
      simp only [Bool.and_eq_true] at ho
      obtain ⟨t, g, d⟩ := a
      obtain ⟨t', g', d'⟩ := b
      cases Nat.eq_of_beq_eq_true ho.1
      cases Nat.eq_of_beq_eq_true ho.2
      split at h
      next r hr =>
        cases h
        refine rf_o_bin (fun ρ ad x y H locs ls rest hE hx hy => ?_) (kk _ List.mem_cons_self)
        obtain ⟨x', rfl, -⟩ := rf_gv_int hx
        obtain ⟨y', rfl, -⟩ := rf_gv_int hy
        exact row ρ ad E g d g' d' x' y' r H locs nn.2.1 nn.2.2 ls rest hE hx hy hr
      next => cases h
    next => cases h
  next => cases h
theorem rf_t_lbin {f : rf_EV → rf_AV → rf_AV → Option (rf_EV × rf_AV)} {pc pc' : Nat} {S : rf_AS} {ss : List (Nat × rf_AS)} (h : rf_s_bin f 1 pc' S = some ss)
    (row : ∀ (ρ : List Int) (ad : List Nat) (E : rf_EV) (g : Nat) (d : Int) (g' : Nat) (d' : Int) (x y : Int64) (r : rf_EV × rf_AV) (H : Heap) (locs : List Loc) (cells slots : Nat) (ls : Array Slot) (rest : List Value), rf_okE ρ E → rf_gv ρ ad xt (1, g, d) (.long x) → rf_gv ρ ad xt (1, g', d') (.long y) → f E (1, g, d) (1, g', d') = some r → ∃ v', rf_res ρ ad xt r v' ∧ (W p l e R s m args below meth c H locs cells slots Q (F0 m pc' ls (v' :: rest)) → W p l e R s m args below meth c H locs cells slots Q (F0 m pc ls (.long y :: .long x :: rest)))) (kk : rf_K p l e R s m args below meth c Q D cl tys A H0 xt nL ρ0 ss) : rf_G p l e R s m args below meth c Q D cl tys A H0 xt nL ρ0 pc S := by
  obtain ⟨E, L, st, w, nn⟩ := S
  unfold rf_s_bin at h
  dsimp only at h
  split at h
  next b a st' =>
    split at h
    next ho =>
      simp only [Bool.and_eq_true] at ho
      obtain ⟨t, g, d⟩ := a
      obtain ⟨t', g', d'⟩ := b
      cases Nat.eq_of_beq_eq_true ho.1
      cases Nat.eq_of_beq_eq_true ho.2
      split at h
      next r hr =>
        cases h
        refine rf_o_bin (fun ρ ad x y H locs ls rest hE hx hy => ?_) (kk _ List.mem_cons_self)
        obtain ⟨x', rfl, -⟩ := rf_gv_long hx
        obtain ⟨y', rfl, -⟩ := rf_gv_long hy
        exact row ρ ad E g d g' d' x' y' r H locs nn.2.1 nn.2.2 ls rest hE hx hy hr
      next => cases h
    next => cases h
  next => cases h
theorem rf_t_lsh {pc pc' : Nat} {S : rf_AS} {ss : List (Nat × rf_AS)} (h : rf_s_lsh pc' S = some ss)
    (row : ∀ (x : Int64) (y : Int32) (H : Heap) (locs : List Loc) (cells slots : Nat) (ls : Array Slot) (rest : List Value), ∃ v' : Int64, (W p l e R s m args below meth c H locs cells slots Q (F0 m pc' ls (.long v' :: rest)) → W p l e R s m args below meth c H locs cells slots Q (F0 m pc ls (.int y :: .long x :: rest)))) (kk : rf_K p l e R s m args below meth c Q D cl tys A H0 xt nL ρ0 ss) : rf_G p l e R s m args below meth c Q D cl tys A H0 xt nL ρ0 pc S := by
  obtain ⟨E, L, st, w, nn⟩ := S
  unfold rf_s_lsh at h
  dsimp only at h
  split at h
  next b a st' =>
    split at h
    next ho =>
      cases h
      simp only [Bool.and_eq_true] at ho
      obtain ⟨t, g, d⟩ := a
      obtain ⟨t', g', d'⟩ := b
      cases Nat.eq_of_beq_eq_true ho.1
      cases Nat.eq_of_beq_eq_true ho.2
      refine rf_o_bin (r := rf_ltop E) (fun ρ ad x y H locs ls rest hE hx hy => ?_) (kk _ List.mem_cons_self)
      obtain ⟨x', rfl, -⟩ := rf_gv_long hx
      obtain ⟨y', rfl, -⟩ := rf_gv_int hy
      obtain ⟨v', hv⟩ := row x' y' H locs nn.2.1 nn.2.2 ls rest
      exact ⟨.long v', rf_ltop_long hE v', hv⟩
    next => cases h
  next => cases h
theorem rf_t_binf {f : rf_EV → rf_AV → rf_AV → Option (rf_EV × rf_AV)} {ex : rf_EV → rf_AV → rf_AV → Bool} {kd o : Nat} {df : Bool} {pc pc' : Nat} {S : rf_AS} {ss : List (Nat × rf_AS)} (h : rf_s_binf f ex kd o df pc' S = some ss)
    (row : ∀ (ρ : List Int) (ad : List Nat) (E : rf_EV) (g : Nat) (d : Int) (g' : Nat) (d' : Int) (x y : Int32) (r : rf_EV × rf_AV) (H : Heap) (locs : List Loc) (cells slots : Nat) (ls : Array Slot) (rest : List Value), rf_okE ρ E → rf_gv ρ ad xt (0, g, d) (.int x) → rf_gv ρ ad xt (0, g', d') (.int y) → f E (0, g, d) (0, g', d') = some r → ∃ v' : Int32, rf_res ρ ad xt r (.int v') ∧ (W p l e R s m args below meth c H locs cells slots Q (F0 m pc' ls (.int v' :: rest)) → W p l e R s m args below meth c H locs cells slots Q (F0 m pc ls (.int y :: .int x :: rest))) ∧ (ex E (0, g, d) (0, g', d') = true → rf_XP xt kd [] [x.toInt, y.toInt, v'.toInt]) ∧ (v'.toInt = rf_wop o x.toInt y.toInt))
    (tag : ∀ (E : rf_EV) (a b : rf_AV) (r : rf_EV × rf_AV), f E a b = some r → r.2.1 = 0) (kk : rf_K p l e R s m args below meth c Q D cl tys A H0 xt nL ρ0 ss) : rf_G p l e R s m args below meth c Q D cl tys A H0 xt nL ρ0 pc S := by
  obtain ⟨E, L, st, w, fs, nc, ns⟩ := S
  unfold rf_s_binf at h
  dsimp only at h
  split at h
  next b a st' =>
    split at h
    next ho =>
      simp only [Bool.and_eq_true] at ho
      obtain ⟨t, g, d⟩ := a
      obtain ⟨t', g', d'⟩ := b
      cases Nat.eq_of_beq_eq_true ho.1
      cases Nat.eq_of_beq_eq_true ho.2
      split at h
      next r hr =>
        cases h
        refine rf_o_binf (fun ρ ad x y H locs ls rest hE hx hy => ?_) (kk _ List.mem_cons_self)
        obtain ⟨x', rfl, hx'⟩ := rf_gv_int hx
        obtain ⟨y', rfl, hy'⟩ := rf_gv_int hy
        obtain ⟨v', h1, h2, h3, h4⟩ := row ρ ad E g d g' d' x' y' r H locs nc ns ls rest hE hx hy hr
        refine ⟨.int v', h1, h2, fun f0 hf0 ρ' es k1 k2 k3 => ?_⟩
        obtain ⟨_, e1, r1, p1⟩ := rf_gv_int k1
        cases e1
        obtain ⟨_, e2, r2, p2⟩ := rf_gv_int k2
        cases e2
        obtain ⟨rE, rt, rg, rd⟩ := r
        have ht := tag _ _ _ _ hr
        dsimp only at ht
        subst ht
        obtain ⟨_, e3, r3, p3⟩ := rf_gv_int k3
        cases e3
        unfold rf_bf at hf0
        split at hf0
        next =>
          split at hf0
          next hex =>
            cases hf0
            exact ⟨[_, _, _], ⟨⟨r1, p1⟩, ⟨r2, p2⟩, ⟨r3, p3⟩, trivial⟩, h3 hex⟩
          next =>
            cases hf0
            exact ⟨[Int.ofNat o, _, _, _], ⟨⟨0, rfl, by dsimp only; omega⟩, ⟨r1, p1⟩, ⟨r2, p2⟩, ⟨r3, p3⟩, trivial⟩, h4⟩
        next => cases hf0
      next => cases h
    next => cases h
  next => cases h
theorem rf_gv_lnum {ρ : List Int} {ad : List Nat} {xt : Nat → Nat} {a : rf_AV} {v : Int64} (h : rf_gv ρ ad xt a (.long v)) : rf_num ρ (0, a.2.1, a.2.2) v.toInt := by
  obtain ⟨t, g, d⟩ := a
  match t, h with
  | 0, h => obtain ⟨x, e, -⟩ := h; cases e
  | 1, h =>
    obtain ⟨x, e, r, h1, h2⟩ := h
    cases e
    exact ⟨r, h1, h2⟩
  | 2, h => obtain ⟨q, -, e⟩ := h; cases e
  | 3, h => cases (show Value.long v = .null from h)
  | 4, h => cases (show Value.long v = .ref (xt g) from h)
  | 5, h => cases (show Value.long v = .ref (xt 11) from h.1)
  | n + 6, h => exact h.elim
theorem rf_gv_inum {ρ : List Int} {ad : List Nat} {xt : Nat → Nat} {a : rf_AV} {v : Int32} (h : rf_gv ρ ad xt a (.int v)) : rf_num ρ (0, a.2.1, a.2.2) v.toInt := by
  obtain ⟨t, g, d⟩ := a
  match t, h with
  | 0, h =>
    obtain ⟨x, e, r, h1, h2⟩ := h
    cases e
    exact ⟨r, h1, h2⟩
  | 1, h => obtain ⟨x, e, -⟩ := h; cases e
  | 2, h => obtain ⟨q, -, e⟩ := h; cases e
  | 3, h => cases (show Value.int v = .null from h)
  | 4, h => cases (show Value.int v = .ref (xt g) from h)
  | 5, h => cases (show Value.int v = .ref (xt 11) from h.1)
  | n + 6, h => exact h.elim
theorem rf_t_lbinf {f : rf_EV → rf_AV → rf_AV → Option (rf_EV × rf_AV)} {o : Nat} {df : Bool} {pc pc' : Nat} {S : rf_AS} {ss : List (Nat × rf_AS)} (h : rf_s_lbinf f 1 o df pc' S = some ss)
    (row : ∀ (ρ : List Int) (ad : List Nat) (E : rf_EV) (g : Nat) (d : Int) (g' : Nat) (d' : Int) (x y : Int64) (r : rf_EV × rf_AV) (H : Heap) (locs : List Loc) (cells slots : Nat) (ls : Array Slot) (rest : List Value), rf_okE ρ E → rf_gv ρ ad xt (1, g, d) (.long x) → rf_gv ρ ad xt (1, g', d') (.long y) → f E (1, g, d) (1, g', d') = some r → ∃ v' : Int64, rf_res ρ ad xt r (.long v') ∧ (W p l e R s m args below meth c H locs cells slots Q (F0 m pc' ls (.long v' :: rest)) → W p l e R s m args below meth c H locs cells slots Q (F0 m pc ls (.long y :: .long x :: rest))) ∧ v'.toInt = rf_wop o x.toInt y.toInt) (kk : rf_K p l e R s m args below meth c Q D cl tys A H0 xt nL ρ0 ss) : rf_G p l e R s m args below meth c Q D cl tys A H0 xt nL ρ0 pc S := by
  obtain ⟨E, L, st, w, fs, nc, ns⟩ := S
  unfold rf_s_lbinf at h
  dsimp only at h
  split at h
  next b a st' =>
    split at h
    next ho =>
      simp only [Bool.and_eq_true] at ho
      obtain ⟨t, g, d⟩ := a
      obtain ⟨t', g', d'⟩ := b
      cases Nat.eq_of_beq_eq_true ho.1
      cases Nat.eq_of_beq_eq_true ho.2
      split at h
      next r hr =>
        cases h
        refine rf_o_binf (fun ρ ad x y H locs ls rest hE hx hy => ?_) (kk _ List.mem_cons_self)
        obtain ⟨x', rfl, hx'⟩ := rf_gv_long hx
        obtain ⟨y', rfl, hy'⟩ := rf_gv_long hy
        obtain ⟨v', h1, h2, h4⟩ := row ρ ad E g d g' d' x' y' r H locs nc ns ls rest hE hx hy hr
        refine ⟨.long v', h1, h2, fun f0 hf0 ρ' es k1 k2 k3 => ?_⟩
        unfold rf_lbf at hf0
        split at hf0
        next =>
          cases hf0
          exact ⟨[Int.ofNat o, _, _, _], ⟨⟨0, rfl, by dsimp only; omega⟩, rf_gv_lnum k1, rf_gv_lnum k2, rf_gv_lnum k3, trivial⟩, h4⟩
        next => cases hf0
      next => cases h
    next => cases h
  next => cases h
theorem rf_t_lshf {o : Nat} {df : Bool} {pc pc' : Nat} {S : rf_AS} {ss : List (Nat × rf_AS)} (h : rf_s_lbinf rf_ltp 0 o df pc' S = some ss)
    (row : ∀ (x : Int64) (y : Int32) (H : Heap) (locs : List Loc) (cells slots : Nat) (ls : Array Slot) (rest : List Value), ∃ v' : Int64, (W p l e R s m args below meth c H locs cells slots Q (F0 m pc' ls (.long v' :: rest)) → W p l e R s m args below meth c H locs cells slots Q (F0 m pc ls (.int y :: .long x :: rest))) ∧ v'.toInt = rf_wop o x.toInt y.toInt) (kk : rf_K p l e R s m args below meth c Q D cl tys A H0 xt nL ρ0 ss) : rf_G p l e R s m args below meth c Q D cl tys A H0 xt nL ρ0 pc S := by
  obtain ⟨E, L, st, w, fs, nc, ns⟩ := S
  unfold rf_s_lbinf at h
  dsimp only at h
  split at h
  next b a st' =>
    split at h
    next ho =>
      simp only [Bool.and_eq_true] at ho
      obtain ⟨t, g, d⟩ := a
      obtain ⟨t', g', d'⟩ := b
      cases Nat.eq_of_beq_eq_true ho.1
      cases Nat.eq_of_beq_eq_true ho.2
      split at h
      next r hr =>
        cases h
        cases hr
        refine rf_o_binf (r := rf_ltop E) (fun ρ ad x y H locs ls rest hE hx hy => ?_) (kk _ List.mem_cons_self)
        obtain ⟨x', rfl, hx'⟩ := rf_gv_long hx
        obtain ⟨y', rfl, hy'⟩ := rf_gv_int hy
        obtain ⟨v', h2, h4⟩ := row x' y' H locs nc ns ls rest
        refine ⟨.long v', rf_ltop_long hE v', h2, fun f0 hf0 ρ' es k1 k2 k3 => ?_⟩
        unfold rf_lbf at hf0
        split at hf0
        next =>
          cases hf0
          exact ⟨[Int.ofNat o, _, _, _], ⟨⟨0, rfl, by dsimp only; omega⟩, rf_gv_lnum k1, rf_gv_inum k2, rf_gv_lnum k3, trivial⟩, h4⟩
        next => cases hf0
      next => cases h
    next => cases h
  next => cases h
theorem rf_t_unf {f : rf_EV → rf_AV → Option (rf_EV × rf_AV)} {o : Nat} {df : Bool} {pc pc' : Nat} {S : rf_AS} {ss : List (Nat × rf_AS)} (h : rf_s_unf f 0 o df pc' S = some ss)
    (row : ∀ (ρ : List Int) (ad : List Nat) (E : rf_EV) (g : Nat) (d : Int) (x : Int32) (r : rf_EV × rf_AV) (H : Heap) (locs : List Loc) (cells slots : Nat) (ls : Array Slot) (rest : List Value), rf_okE ρ E → rf_gv ρ ad xt (0, g, d) (.int x) → f E (0, g, d) = some r → ∃ v' : Int32, rf_res ρ ad xt r (.int v') ∧ (W p l e R s m args below meth c H locs cells slots Q (F0 m pc' ls (.int v' :: rest)) → W p l e R s m args below meth c H locs cells slots Q (F0 m pc ls (.int x :: rest))) ∧ v'.toInt = rf_wop o x.toInt 0)
    (tag : ∀ (E : rf_EV) (a : rf_AV) (r : rf_EV × rf_AV), f E a = some r → r.2.1 = 0) (kk : rf_K p l e R s m args below meth c Q D cl tys A H0 xt nL ρ0 ss) : rf_G p l e R s m args below meth c Q D cl tys A H0 xt nL ρ0 pc S := by
  obtain ⟨E, L, st, w, fs, nc, ns⟩ := S
  unfold rf_s_unf at h
  dsimp only at h
  split at h
  next a st' =>
    split at h
    next ho =>
      obtain ⟨t, g, d⟩ := a
      cases Nat.eq_of_beq_eq_true ho
      split at h
      next r hr =>
        cases h
        refine rf_o_unf (fun ρ ad x H locs ls rest hE hx => ?_) (kk _ List.mem_cons_self)
        obtain ⟨x', rfl, hx'⟩ := rf_gv_int hx
        obtain ⟨v', h1, h2, h4⟩ := row ρ ad E g d x' r H locs nc ns ls rest hE hx hr
        refine ⟨.int v', h1, h2, fun f0 hf0 ρ' es k1 k3 => ?_⟩
        obtain ⟨_, e1, r1, p1⟩ := rf_gv_int k1
        cases e1
        obtain ⟨rE, rt, rg, rd⟩ := r
        have ht := tag _ _ _ hr
        dsimp only at ht
        subst ht
        obtain ⟨_, e3, r3, p3⟩ := rf_gv_int k3
        cases e3
        unfold rf_uf at hf0
        split at hf0
        next =>
          cases hf0
          exact ⟨[Int.ofNat o, _, 0, _], ⟨⟨0, rfl, by dsimp only; omega⟩, ⟨r1, p1⟩, ⟨0, rfl, by dsimp only; omega⟩, ⟨r3, p3⟩, trivial⟩, h4⟩
        next => cases hf0
      next => cases h
    next => cases h
  next => cases h
theorem rf_t_lunf {f : rf_EV → rf_AV → Option (rf_EV × rf_AV)} {o : Nat} {df : Bool} {pc pc' : Nat} {S : rf_AS} {ss : List (Nat × rf_AS)} (h : rf_s_unf f 1 o df pc' S = some ss)
    (row : ∀ (ρ : List Int) (ad : List Nat) (E : rf_EV) (g : Nat) (d : Int) (x : Int64) (r : rf_EV × rf_AV) (H : Heap) (locs : List Loc) (cells slots : Nat) (ls : Array Slot) (rest : List Value), rf_okE ρ E → rf_gv ρ ad xt (1, g, d) (.long x) → f E (1, g, d) = some r → ∃ v' : Int32, rf_res ρ ad xt r (.int v') ∧ (W p l e R s m args below meth c H locs cells slots Q (F0 m pc' ls (.int v' :: rest)) → W p l e R s m args below meth c H locs cells slots Q (F0 m pc ls (.long x :: rest))) ∧ v'.toInt = rf_wop o x.toInt 0)
    (tag : ∀ (E : rf_EV) (a : rf_AV) (r : rf_EV × rf_AV), f E a = some r → r.2.1 = 0) (kk : rf_K p l e R s m args below meth c Q D cl tys A H0 xt nL ρ0 ss) : rf_G p l e R s m args below meth c Q D cl tys A H0 xt nL ρ0 pc S := by
  obtain ⟨E, L, st, w, fs, nc, ns⟩ := S
  unfold rf_s_unf at h
  dsimp only at h
  split at h
  next a st' =>
    split at h
    next ho =>
      obtain ⟨t, g, d⟩ := a
      cases Nat.eq_of_beq_eq_true ho
      split at h
      next r hr =>
        cases h
        refine rf_o_unf (fun ρ ad x H locs ls rest hE hx => ?_) (kk _ List.mem_cons_self)
        obtain ⟨x', rfl, hx'⟩ := rf_gv_long hx
        obtain ⟨v', h1, h2, h4⟩ := row ρ ad E g d x' r H locs nc ns ls rest hE hx hr
        refine ⟨.int v', h1, h2, fun f0 hf0 ρ' es k1 k3 => ?_⟩
        obtain ⟨_, e1, r1, p1⟩ := rf_gv_long k1
        cases e1
        obtain ⟨rE, rt, rg, rd⟩ := r
        have ht := tag _ _ _ hr
        dsimp only at ht
        subst ht
        obtain ⟨_, e3, r3, p3⟩ := rf_gv_int k3
        cases e3
        unfold rf_uf at hf0
        split at hf0
        next =>
          cases hf0
          exact ⟨[Int.ofNat o, _, 0, _], ⟨⟨0, rfl, by dsimp only; omega⟩, ⟨r1, p1⟩, ⟨0, rfl, by dsimp only; omega⟩, ⟨r3, p3⟩, trivial⟩, h4⟩
        next => cases hf0
      next => cases h
    next => cases h
  next => cases h
theorem rf_t_un {f : rf_EV → rf_AV → Option (rf_EV × rf_AV)} {pc pc' : Nat} {S : rf_AS} {ss : List (Nat × rf_AS)} (h : rf_s_un f 0 pc' S = some ss)
    (row : ∀ (ρ : List Int) (ad : List Nat) (E : rf_EV) (g : Nat) (d : Int) (x : Int32) (r : rf_EV × rf_AV) (H : Heap) (locs : List Loc) (cells slots : Nat) (ls : Array Slot) (rest : List Value), rf_okE ρ E → rf_gv ρ ad xt (0, g, d) (.int x) → f E (0, g, d) = some r → ∃ v', rf_res ρ ad xt r v' ∧ (W p l e R s m args below meth c H locs cells slots Q (F0 m pc' ls (v' :: rest)) → W p l e R s m args below meth c H locs cells slots Q (F0 m pc ls (.int x :: rest)))) (kk : rf_K p l e R s m args below meth c Q D cl tys A H0 xt nL ρ0 ss) : rf_G p l e R s m args below meth c Q D cl tys A H0 xt nL ρ0 pc S := by
  obtain ⟨E, L, st, w, nn⟩ := S
  unfold rf_s_un at h
  dsimp only at h
  split at h
  next a st' =>
    split at h
    next ho =>
      obtain ⟨t, g, d⟩ := a
      cases Nat.eq_of_beq_eq_true ho
      split at h
      next r hr =>
        cases h
        refine rf_o_un (fun ρ ad x H locs ls rest hE hx => ?_) (kk _ List.mem_cons_self)
        obtain ⟨x', rfl, -⟩ := rf_gv_int hx
        exact row ρ ad E g d x' r H locs nn.2.1 nn.2.2 ls rest hE hx hr
      next => cases h
    next => cases h
  next => cases h
theorem rf_t_lun {f : rf_EV → rf_AV → Option (rf_EV × rf_AV)} {pc pc' : Nat} {S : rf_AS} {ss : List (Nat × rf_AS)} (h : rf_s_un f 1 pc' S = some ss)
    (row : ∀ (ρ : List Int) (ad : List Nat) (E : rf_EV) (g : Nat) (d : Int) (x : Int64) (r : rf_EV × rf_AV) (H : Heap) (locs : List Loc) (cells slots : Nat) (ls : Array Slot) (rest : List Value), rf_okE ρ E → rf_gv ρ ad xt (1, g, d) (.long x) → f E (1, g, d) = some r → ∃ v', rf_res ρ ad xt r v' ∧ (W p l e R s m args below meth c H locs cells slots Q (F0 m pc' ls (v' :: rest)) → W p l e R s m args below meth c H locs cells slots Q (F0 m pc ls (.long x :: rest)))) (kk : rf_K p l e R s m args below meth c Q D cl tys A H0 xt nL ρ0 ss) : rf_G p l e R s m args below meth c Q D cl tys A H0 xt nL ρ0 pc S := by
  obtain ⟨E, L, st, w, nn⟩ := S
  unfold rf_s_un at h
  dsimp only at h
  split at h
  next a st' =>
    split at h
    next ho =>
      obtain ⟨t, g, d⟩ := a
      cases Nat.eq_of_beq_eq_true ho
      split at h
      next r hr =>
        cases h
        refine rf_o_un (fun ρ ad x H locs ls rest hE hx => ?_) (kk _ List.mem_cons_self)
        obtain ⟨x', rfl, -⟩ := rf_gv_long hx
        exact row ρ ad E g d x' r H locs nn.2.1 nn.2.2 ls rest hE hx hr
      next => cases h
    next => cases h
  next => cases h
theorem rf_t_icmp (hx : p.tables.exec = Jvm.exec) (hb : c.code = cc) {k : Jvm.ClassFile.Cond} {off : Int} {pc : Nat} {S : rf_AS} {ss : List (Nat × rf_AS)} (hd : decode cc pc = .ok (.if_icmp k off, 3)) (h : rf_s_icmp k off pc S = some ss) (kk : rf_K p l e R s m args below meth c Q D cl tys A H0 xt nL ρ0 ss) : rf_G p l e R s m args below meth c Q D cl tys A H0 xt nL ρ0 pc S := by
  obtain ⟨E, L, st, w, nn⟩ := S
  unfold rf_s_icmp at h
  dsimp only at h
  split at h
  next b a st' t ht =>
    split at h
    next ho =>
      cases h
      simp only [Bool.and_eq_true] at ho
      exact rf_o_icmp hx hb (Nat.eq_of_beq_eq_true ho.1) (Nat.eq_of_beq_eq_true ho.2) hd ht kk
    next => cases h
  next => cases h
theorem rf_t_if (hx : p.tables.exec = Jvm.exec) (hb : c.code = cc) {k : Jvm.ClassFile.Cond} {off : Int} {pc : Nat} {S : rf_AS} {ss : List (Nat × rf_AS)} (hd : decode cc pc = .ok (.ifCond k off, 3)) (h : rf_s_if k off pc S = some ss) (kk : rf_K p l e R s m args below meth c Q D cl tys A H0 xt nL ρ0 ss) : rf_G p l e R s m args below meth c Q D cl tys A H0 xt nL ρ0 pc S := by
  obtain ⟨E, L, st, w, nn⟩ := S
  unfold rf_s_if at h
  dsimp only at h
  split at h
  next a st' t ht =>
    split at h
    next ho =>
      cases h
      exact rf_o_if hx hb (Nat.eq_of_beq_eq_true ho) hd ht kk
    next => cases h
  next => cases h
end
