/-! THE CHECKER, one instruction: from the states behind it to the state ahead -/
def rf_G (p : Program) (l : Launch) (e : Env) (R : Room) (s : State) (m : MethodId) (args : Array Value) (below : List Frame) (meth : Method) (c : Code) (Q : State → Prop) (D : va_G) (cl : List vw_C) (tys : List (ClassId × FieldType)) (A : Nat → Prop) (H0 : Heap) (xt : Nat → Nat) (nL : Nat) (ρ0 : List Int × List Nat) (pc : Nat) (S : rf_AS) : Prop :=
  ∀ (ρ : List Int) (ad : List Nat) (ws : va_W) (H : Heap) (locs : List Loc) (ls : Array Slot) (st : List Value), rf_Rel D cl tys A H0 xt nL ρ0 S ρ ad ws H locs ls st → W p l e R s m args below meth c H locs S.2.2.2.2.2.1 S.2.2.2.2.2.2 Q (F0 m pc ls st)
def rf_K (p : Program) (l : Launch) (e : Env) (R : Room) (s : State) (m : MethodId) (args : Array Value) (below : List Frame) (meth : Method) (c : Code) (Q : State → Prop) (D : va_G) (cl : List vw_C) (tys : List (ClassId × FieldType)) (A : Nat → Prop) (H0 : Heap) (xt : Nat → Nat) (nL : Nat) (ρ0 : List Int × List Nat) (ss : List (Nat × rf_AS)) : Prop :=
  ∀ q ∈ ss, rf_G p l e R s m args below meth c Q D cl tys A H0 xt nL ρ0 q.1 q.2
def rf_lget : rf_LC → Nat → Option rf_AV
  | [], _ => none
  | q :: l, i => if Nat.beq q.1 i then some q.2 else rf_lget l i
theorem rf_lget_spec {ρ : List Int} {ad : List Nat} {xt : Nat → Nat} {i : Nat} {a : rf_AV} : ∀ {L : rf_LC} {lv : List (Nat × Value)}, rf_L (rf_loc ρ ad xt) L lv → rf_lget L i = some a → ∃ v, (i, v) ∈ lv ∧ rf_gv ρ ad xt a v
  | [], [], _, h => by cases h
  | q :: L, w :: lv, hL, h => by
    unfold rf_lget at h
    split at h
    next hq =>
      cases h
      refine ⟨w.2, ?_, hL.1.2⟩
      have e1 := Nat.eq_of_beq_eq_true hq
      have e2 := hL.1.1
      rw [← e1, e2]
      exact List.mem_cons_self
    next =>
      obtain ⟨v, h1, h2⟩ := rf_lget_spec hL.2 h
      exact ⟨v, List.mem_cons_of_mem _ h1, h2⟩
  | [], _ :: _, hL, _ => hL.elim
  | _ :: _, [], hL, _ => hL.elim
def rf_lset (L : rf_LC) (i : Nat) (a : rf_AV) : rf_LC := (i, a) :: L.filter (fun q => !(q.1 == i) && !(q.1 + 1 == i && q.2.1 == 1))
def rf_lset2 (L : rf_LC) (i : Nat) (a : rf_AV) : rf_LC := (i, a) :: L.filter (fun q => !(q.1 == i) && (!(q.1 == i + 1) && !(q.1 + 1 == i && q.2.1 == 1)))
theorem rf_cat_beq {ρ : List Int} {ad : List Nat} {xt : Nat → Nat} {a : rf_AV} {v : Value} (h : rf_gv ρ ad xt a v) : (a.1 == 1) = (v.category == 2) := by
  rw [rf_gv_cat h]
  by_cases h1 : a.1 = 1
  · rw [if_pos h1, h1]; rfl
  · rw [if_neg h1]
    simp [h1]
theorem rf_lset_spec {ρ : List Int} {ad : List Nat} {xt : Nat → Nat} {L : rf_LC} {lv : List (Nat × Value)} {i : Nat} {a : rf_AV} {v : Value} (hL : rf_L (rf_loc ρ ad xt) L lv) (h : rf_gv ρ ad xt a v) : rf_L (rf_loc ρ ad xt) (rf_lset L i a) ((i, v) :: lv.filter (fun q => !(q.1 == i) && !(q.1 + 1 == i && q.2.category == 2))) := by
  refine ⟨⟨rfl, h⟩, rf_L_filter (fun x y hxy => ?_) hL⟩
  rw [hxy.1, rf_cat_beq hxy.2]
theorem rf_lset2_spec {ρ : List Int} {ad : List Nat} {xt : Nat → Nat} {L : rf_LC} {lv : List (Nat × Value)} {i : Nat} {a : rf_AV} {v : Value} (hL : rf_L (rf_loc ρ ad xt) L lv) (h : rf_gv ρ ad xt a v) : rf_L (rf_loc ρ ad xt) (rf_lset2 L i a) ((i, v) :: lv.filter (fun q => !(q.1 == i) && (!(q.1 == i + 1) && !(q.1 + 1 == i && q.2.category == 2)))) := by
  refine ⟨⟨rfl, h⟩, rf_L_filter (fun x y hxy => ?_) hL⟩
  rw [hxy.1, rf_cat_beq hxy.2]
section
variable {p : Program} {l : Launch} {e : Env} {R : Room} {s : State} {m : MethodId} {args : Array Value} {below : List Frame} {meth : Method} {c : Code} {Q : State → Prop}
variable {cc : ByteArray} {D : va_G} {cl : List vw_C} {tys : List (ClassId × FieldType)} {A : Nat → Prop} {H0 : Heap} {xt : Nat → Nat} {nL : Nat} {ρ0 : List Int × List Nat}
theorem rf_rel_res {E : rf_EV} {L : rf_LC} {st st2 : List rf_AV} {w : List rf_AC} {nn : rf_T} {ρ : List Int} {ad : List Nat} {ws : va_W} {H : Heap} {locs : List Loc} {ls : Array Slot} {stc stc2 : List Value} {r : rf_EV × rf_AV} {v : Value}
    (h : rf_Rel D cl tys A H0 xt nL ρ0 (E, L, st, w, nn) ρ ad ws H locs ls stc) (hr : rf_res ρ ad xt r v) (h2 : rf_L (rf_gv ρ ad xt) st2 stc2) : ∃ l1, rf_Rel D cl tys A H0 xt nL ρ0 (r.1, L, r.2 :: st2, w, nn) (ρ ++ l1) ad ws H locs ls (v :: stc2) := by
  obtain ⟨⟨⟨l0, h0⟩, hz⟩, hE, ha, hw, ⟨h1, h3, h4, h5⟩, ⟨lv, hl1, hl2⟩, hs⟩ := h
  obtain ⟨l1, hE1, hv⟩ := hr
  exact ⟨l1, ⟨⟨l0 ++ l1, by rw [h0, List.append_assoc]⟩, hz⟩, hE1, ha, rf_L_mono (fun _ _ k => rf_cell_mono (fun _ _ z => rf_gv_app z) k) hw, ⟨h1, h3, h4, rf_facts_app h5⟩, ⟨lv, hl1, rf_L_mono (fun _ _ k => ⟨k.1, rf_gv_app k.2⟩) hl2⟩, ⟨hv, rf_L_mono (fun _ _ k => rf_gv_app k) h2⟩⟩
theorem rf_rel_env {E E' : rf_EV} {L : rf_LC} {st st2 : List rf_AV} {w : List rf_AC} {nn : rf_T} {ρ : List Int} {ad : List Nat} {ws : va_W} {H : Heap} {locs : List Loc} {ls : Array Slot} {stc stc2 : List Value}
    (h : rf_Rel D cl tys A H0 xt nL ρ0 (E, L, st, w, nn) ρ ad ws H locs ls stc) (hE : rf_okE ρ E') (h2 : rf_L (rf_gv ρ ad xt) st2 stc2) : rf_Rel D cl tys A H0 xt nL ρ0 (E', L, st2, w, nn) ρ ad ws H locs ls stc2 := by
  obtain ⟨h0, -, ha, hw, hh, hl, -⟩ := h
  exact ⟨h0, hE, ha, hw, hh, hl, h2⟩
/-- a constant is laid on the stack -/
theorem rf_o_push {pc pc' : Nat} {E : rf_EV} {L : rf_LC} {st : List rf_AV} {w : List rf_AC} {nn : rf_T} {a : rf_AV} {v : Value} (ha : ∀ (ρ : List Int) (ad : List Nat), rf_gv ρ ad xt a v)
    (row : ∀ (H : Heap) (locs : List Loc) (ls : Array Slot) (rest : List Value), W p l e R s m args below meth c H locs nn.2.1 nn.2.2 Q (F0 m pc' ls (v :: rest)) → W p l e R s m args below meth c H locs nn.2.1 nn.2.2 Q (F0 m pc ls rest))
    (k : rf_G p l e R s m args below meth c Q D cl tys A H0 xt nL ρ0 pc' (E, L, a :: st, w, nn)) : rf_G p l e R s m args below meth c Q D cl tys A H0 xt nL ρ0 pc (E, L, st, w, nn) := by
  intro ρ ad ws H locs ls stc h
  refine row H locs ls stc (k ρ ad ws H locs ls _ ?_)
  exact rf_rel_env h h.2.1 ⟨ha ρ ad, h.2.2.2.2.2.2⟩
theorem rf_o_load {pc pc' i : Nat} {E : rf_EV} {L : rf_LC} {st : List rf_AV} {w : List rf_AC} {nn : rf_T} {a : rf_AV} (ha : rf_lget L i = some a)
    (row : ∀ (ρ : List Int) (ad : List Nat) (v : Value) (H : Heap) (locs : List Loc) (ls : Array Slot) (rest : List Value), rf_gv ρ ad xt a v → ls[i]? = some (.val v) → W p l e R s m args below meth c H locs nn.2.1 nn.2.2 Q (F0 m pc' ls (v :: rest)) → W p l e R s m args below meth c H locs nn.2.1 nn.2.2 Q (F0 m pc ls rest))
    (k : rf_G p l e R s m args below meth c Q D cl tys A H0 xt nL ρ0 pc' (E, L, a :: st, w, nn)) : rf_G p l e R s m args below meth c Q D cl tys A H0 xt nL ρ0 pc (E, L, st, w, nn) := by
  intro ρ ad ws H locs ls stc h
  obtain ⟨lv, hl1, hl2⟩ := h.2.2.2.2.2.1
  obtain ⟨v, hv1, hv2⟩ := rf_lget_spec hl2 ha
  refine row ρ ad v H locs ls stc hv2 (hl1.2.2 _ hv1) (k ρ ad ws H locs ls _ ?_)
  exact rf_rel_env h h.2.1 ⟨hv2, h.2.2.2.2.2.2⟩
theorem rf_o_store {pc pc' i : Nat} {E : rf_EV} {L : rf_LC} {st : List rf_AV} {w : List rf_AC} {nn : rf_T} {a : rf_AV}
    (row : ∀ (ρ : List Int) (ad : List Nat) (v : Value) (H : Heap) (locs : List Loc) (ls : Array Slot) (rest : List Value) (lv : List (Nat × Value)), rf_gv ρ ad xt a v → lv_has ls nL lv → (∀ ls' : Array Slot, lv_has ls' nL ((i, v) :: lv.filter (fun q => !(q.1 == i) && !(q.1 + 1 == i && q.2.category == 2))) → W p l e R s m args below meth c H locs nn.2.1 nn.2.2 Q (F0 m pc' ls' rest)) → W p l e R s m args below meth c H locs nn.2.1 nn.2.2 Q (F0 m pc ls (v :: rest)))
    (k : rf_G p l e R s m args below meth c Q D cl tys A H0 xt nL ρ0 pc' (E, rf_lset L i a, st, w, nn)) : rf_G p l e R s m args below meth c Q D cl tys A H0 xt nL ρ0 pc (E, L, a :: st, w, nn) := by
  intro ρ ad ws H locs ls stc h
  obtain ⟨h0, hE, ha, hw, hh, ⟨lv, hl1, hl2⟩, hs⟩ := h
  match stc, hs with
  | v :: stc, hs =>
    refine row ρ ad v H locs ls stc lv hs.1 hl1 (fun ls' hl' => k ρ ad ws H locs ls' stc ?_)
    exact ⟨h0, hE, ha, hw, hh, ⟨_, hl', rf_lset_spec hl2 hs.1⟩, hs.2⟩
theorem rf_o_store2 {pc pc' i : Nat} {E : rf_EV} {L : rf_LC} {st : List rf_AV} {w : List rf_AC} {nn : rf_T} {a : rf_AV}
    (row : ∀ (ρ : List Int) (ad : List Nat) (v : Value) (H : Heap) (locs : List Loc) (ls : Array Slot) (rest : List Value) (lv : List (Nat × Value)), rf_gv ρ ad xt a v → lv_has ls nL lv → (∀ ls' : Array Slot, lv_has ls' nL ((i, v) :: lv.filter (fun q => !(q.1 == i) && (!(q.1 == i + 1) && !(q.1 + 1 == i && q.2.category == 2)))) → W p l e R s m args below meth c H locs nn.2.1 nn.2.2 Q (F0 m pc' ls' rest)) → W p l e R s m args below meth c H locs nn.2.1 nn.2.2 Q (F0 m pc ls (v :: rest)))
    (k : rf_G p l e R s m args below meth c Q D cl tys A H0 xt nL ρ0 pc' (E, rf_lset2 L i a, st, w, nn)) : rf_G p l e R s m args below meth c Q D cl tys A H0 xt nL ρ0 pc (E, L, a :: st, w, nn) := by
  intro ρ ad ws H locs ls stc h
  obtain ⟨h0, hE, ha, hw, hh, ⟨lv, hl1, hl2⟩, hs⟩ := h
  match stc, hs with
  | v :: stc, hs =>
    refine row ρ ad v H locs ls stc lv hs.1 hl1 (fun ls' hl' => k ρ ad ws H locs ls' stc ?_)
    exact ⟨h0, hE, ha, hw, hh, ⟨_, hl', rf_lset2_spec hl2 hs.1⟩, hs.2⟩
/-- an instruction that takes one value and gives one -/
theorem rf_o_un {pc pc' : Nat} {E : rf_EV} {L : rf_LC} {st : List rf_AV} {w : List rf_AC} {nn : rf_T} {a : rf_AV} {r : rf_EV × rf_AV}
    (row : ∀ (ρ : List Int) (ad : List Nat) (v : Value) (H : Heap) (locs : List Loc) (ls : Array Slot) (rest : List Value), rf_okE ρ E → rf_gv ρ ad xt a v → ∃ v', rf_res ρ ad xt r v' ∧ (W p l e R s m args below meth c H locs nn.2.1 nn.2.2 Q (F0 m pc' ls (v' :: rest)) → W p l e R s m args below meth c H locs nn.2.1 nn.2.2 Q (F0 m pc ls (v :: rest))))
    (k : rf_G p l e R s m args below meth c Q D cl tys A H0 xt nL ρ0 pc' (r.1, L, r.2 :: st, w, nn)) : rf_G p l e R s m args below meth c Q D cl tys A H0 xt nL ρ0 pc (E, L, a :: st, w, nn) := by
  intro ρ ad ws H locs ls stc h
  have hs := h.2.2.2.2.2.2
  match stc, h, hs with
  | v :: stc, h, hs =>
    obtain ⟨v', h1, h2⟩ := row ρ ad v H locs ls stc h.2.1 hs.1
    obtain ⟨l1, h'⟩ := rf_rel_res h h1 hs.2
    exact h2 (k (ρ ++ l1) ad ws H locs ls _ h')
/-- an instruction that takes two values and gives one; y lies on top -/
theorem rf_o_bin {pc pc' : Nat} {E : rf_EV} {L : rf_LC} {st : List rf_AV} {w : List rf_AC} {nn : rf_T} {a b : rf_AV} {r : rf_EV × rf_AV}
    (row : ∀ (ρ : List Int) (ad : List Nat) (x y : Value) (H : Heap) (locs : List Loc) (ls : Array Slot) (rest : List Value), rf_okE ρ E → rf_gv ρ ad xt a x → rf_gv ρ ad xt b y → ∃ v', rf_res ρ ad xt r v' ∧ (W p l e R s m args below meth c H locs nn.2.1 nn.2.2 Q (F0 m pc' ls (v' :: rest)) → W p l e R s m args below meth c H locs nn.2.1 nn.2.2 Q (F0 m pc ls (y :: x :: rest))))
    (k : rf_G p l e R s m args below meth c Q D cl tys A H0 xt nL ρ0 pc' (r.1, L, r.2 :: st, w, nn)) : rf_G p l e R s m args below meth c Q D cl tys A H0 xt nL ρ0 pc (E, L, b :: a :: st, w, nn) := by
  intro ρ ad ws H locs ls stc h
  have hs := h.2.2.2.2.2.2
  match stc, h, hs with
  | y :: x :: stc, h, hs =>
    obtain ⟨v', h1, h2⟩ := row ρ ad x y H locs ls stc h.2.1 hs.2.1 hs.1
    obtain ⟨l1, h'⟩ := rf_rel_res h h1 hs.2.2
    exact h2 (k (ρ ++ l1) ad ws H locs ls _ h')
/-- an instruction that moves values on the stack alone -/
theorem rf_o_stk {pc pc' : Nat} {E : rf_EV} {L : rf_LC} {st st2 : List rf_AV} {w : List rf_AC} {nn : rf_T}
    (row : ∀ (ρ : List Int) (ad : List Nat) (stc : List Value) (H : Heap) (locs : List Loc) (ls : Array Slot), rf_L (rf_gv ρ ad xt) st stc → ∃ stc2, rf_L (rf_gv ρ ad xt) st2 stc2 ∧ (W p l e R s m args below meth c H locs nn.2.1 nn.2.2 Q (F0 m pc' ls stc2) → W p l e R s m args below meth c H locs nn.2.1 nn.2.2 Q (F0 m pc ls stc)))
    (k : rf_G p l e R s m args below meth c Q D cl tys A H0 xt nL ρ0 pc' (E, L, st2, w, nn)) : rf_G p l e R s m args below meth c Q D cl tys A H0 xt nL ρ0 pc (E, L, st, w, nn) := by
  intro ρ ad ws H locs ls stc h
  obtain ⟨stc2, h1, h2⟩ := row ρ ad stc H locs ls h.2.2.2.2.2.2
  exact h2 (k ρ ad ws H locs ls _ (rf_rel_env h h.2.1 h1))
end
/-- where a jump goes -/
def rf_tgt (pc : Nat) (off : Int) : Option Nat := if 0 ≤ (pc : Int) + off then some ((pc : Int) + off).toNat else none
theorem rf_tgt_spec {pc t : Nat} {off : Int} (h : rf_tgt pc off = some t) : (pc : Int) + off = (t : Int) := by
  unfold rf_tgt at h
  split at h
  next h0 =>
    cases h
    omega
  next => cases h
def rf_opt (pc : Nat) (E : Option rf_EV) (L : rf_LC) (st : List rf_AV) (wn : List rf_AC × rf_T) : List (Nat × rf_AS) := match E with
  | some E => [(pc, (E, L, st, wn))]
  | none => []
/-- comparisons: what is told where they hold -/
def rf_cnd (k : Jvm.ClassFile.Cond) (E : rf_EV) (a b : rf_AV) : Option rf_EV := match k with
  | .eq => rf_eq E a b
  | .ne => rf_ne E a b
  | .lt => rf_lt E a b
  | .ge => rf_le E b a
  | .gt => rf_lt E b a
  | .le => rf_le E a b
def rf_not (k : Jvm.ClassFile.Cond) : Jvm.ClassFile.Cond := match k with
  | .eq => .ne
  | .ne => .eq
  | .lt => .ge
  | .ge => .lt
  | .gt => .le
  | .le => .gt
section
variable {p : Program} {l : Launch} {e : Env} {R : Room} {s : State} {m : MethodId} {args : Array Value} {below : List Frame} {meth : Method} {c : Code} {Q : State → Prop}
variable {cc : ByteArray} {D : va_G} {cl : List vw_C} {tys : List (ClassId × FieldType)} {A : Nat → Prop} {H0 : Heap} {xt : Nat → Nat} {nL : Nat} {ρ0 : List Int × List Nat}
theorem rf_o_icmp (hx : p.tables.exec = Jvm.exec) (hb : c.code = cc) {pc t : Nat} {off : Int} {k : Jvm.ClassFile.Cond} {E : rf_EV} {L : rf_LC} {st : List rf_AV} {w : List rf_AC} {nn : rf_T} {a b : rf_AV} (ha : a.1 = 0) (hb0 : b.1 = 0) (hd : decode cc pc = .ok (.if_icmp k off, 3)) (ht : rf_tgt pc off = some t)
    (K : rf_K p l e R s m args below meth c Q D cl tys A H0 xt nL ρ0 (rf_opt t (rf_cnd k E a b) L st (w, nn) ++ rf_opt (pc + 3) (rf_cnd (rf_not k) E a b) L st (w, nn))) : rf_G p l e R s m args below meth c Q D cl tys A H0 xt nL ρ0 pc (E, L, b :: a :: st, w, nn) := by
  intro ρ ad ws H locs ls stc h
  have hs := h.2.2.2.2.2.2
  match stc, h, hs with
  | y :: x :: stc, h, hs =>
    obtain ⟨ta, ga, da⟩ := a
    obtain ⟨tb, gb, db⟩ := b
    cases ha
    cases hb0
    obtain ⟨x', rfl, hx'⟩ := rf_gv_int hs.2.1
    obtain ⟨y', rfl, hy'⟩ := rf_gv_int hs.1
    have gx : rf_gv ρ ad xt (0, ga, da) (.int x') := hs.2.1
    have gy : rf_gv ρ ad xt (0, gb, db) (.int y') := hs.1
    have T : ∀ E', rf_cnd k E (0, ga, da) (0, gb, db) = some E' → rf_okE ρ E' → W p l e R s m args below meth c H locs nn.2.1 nn.2.2 Q (F0 m t ls stc) := fun E' e1 h1 =>
      K (t, (E', L, st, w, nn)) (List.mem_append_left _ (by simp [rf_opt, e1])) ρ ad ws H locs ls stc (rf_rel_env h h1 hs.2.2)
    have F : ∀ E', rf_cnd (rf_not k) E (0, ga, da) (0, gb, db) = some E' → rf_okE ρ E' → W p l e R s m args below meth c H locs nn.2.1 nn.2.2 Q (F0 m (pc + 3) ls stc) := fun E' e1 h1 =>
      K (pc + 3, (E', L, st, w, nn)) (List.mem_append_right _ (by simp [rf_opt, e1])) ρ ad ws H locs ls stc (rf_rel_env h h1 hs.2.2)
    have hE := h.2.1
    have ht' := rf_tgt_spec ht
    cases k with
    | eq =>
      refine lv_icmp_eq hx hb hd ht' (fun q => ?_) (fun q => ?_)
      · obtain ⟨E', e1, h1⟩ := rf_eq_spec hE gx gy q; exact T E' e1 h1
      · obtain ⟨E', e1, h1⟩ := rf_ne_spec hE gx gy q; exact F E' e1 h1
    | ne =>
      refine lv_icmp_ne hx hb hd ht' (fun q => ?_) (fun q => ?_)
      · obtain ⟨E', e1, h1⟩ := rf_ne_spec hE gx gy q; exact T E' e1 h1
      · obtain ⟨E', e1, h1⟩ := rf_eq_spec hE gx gy q; exact F E' e1 h1
    | lt =>
      refine lv_icmp_lt hx hb hd ht' (fun q => ?_) (fun q => ?_)
      · obtain ⟨E', e1, h1⟩ := rf_lt_spec hE gx gy q; exact T E' e1 h1
      · obtain ⟨E', e1, h1⟩ := rf_le_spec hE gy gx (Int32.not_lt.mp q); exact F E' e1 h1
    | ge =>
      refine lv_icmp_ge hx hb hd ht' (fun q => ?_) (fun q => ?_)
      · obtain ⟨E', e1, h1⟩ := rf_le_spec hE gy gx q; exact T E' e1 h1
      · obtain ⟨E', e1, h1⟩ := rf_lt_spec hE gx gy (Int32.not_le.mp q); exact F E' e1 h1
    | gt =>
      refine lv_icmp_gt hx hb hd ht' (fun q => ?_) (fun q => ?_)
      · obtain ⟨E', e1, h1⟩ := rf_lt_spec hE gy gx q; exact T E' e1 h1
      · obtain ⟨E', e1, h1⟩ := rf_le_spec hE gx gy (Int32.not_lt.mp q); exact F E' e1 h1
    | le =>
      refine lv_icmp_le hx hb hd ht' (fun q => ?_) (fun q => ?_)
      · obtain ⟨E', e1, h1⟩ := rf_le_spec hE gx gy q; exact T E' e1 h1
      · obtain ⟨E', e1, h1⟩ := rf_lt_spec hE gy gx (Int32.not_le.mp q); exact F E' e1 h1
theorem rf_gv_c0 {ρ : List Int} {ad : List Nat} {xt : Nat → Nat} : rf_gv ρ ad xt (0, 0, 0) (.int 0) := ⟨0, rfl, 0, rfl, by decide⟩
theorem rf_o_if (hx : p.tables.exec = Jvm.exec) (hb : c.code = cc) {pc t : Nat} {off : Int} {k : Jvm.ClassFile.Cond} {E : rf_EV} {L : rf_LC} {st : List rf_AV} {w : List rf_AC} {nn : rf_T} {a : rf_AV} (ha : a.1 = 0) (hd : decode cc pc = .ok (.ifCond k off, 3)) (ht : rf_tgt pc off = some t)
    (K : rf_K p l e R s m args below meth c Q D cl tys A H0 xt nL ρ0 (rf_opt t (rf_cnd k E a (0, 0, 0)) L st (w, nn) ++ rf_opt (pc + 3) (rf_cnd (rf_not k) E a (0, 0, 0)) L st (w, nn))) : rf_G p l e R s m args below meth c Q D cl tys A H0 xt nL ρ0 pc (E, L, a :: st, w, nn) := by
  intro ρ ad ws H locs ls stc h
  have hs := h.2.2.2.2.2.2
  match stc, h, hs with
  | x :: stc, h, hs =>
    obtain ⟨ta, ga, da⟩ := a
    cases ha
    obtain ⟨x', rfl, hx'⟩ := rf_gv_int hs.1
    have gx : rf_gv ρ ad xt (0, ga, da) (.int x') := hs.1
    have gy : rf_gv ρ ad xt (0, 0, 0) (.int 0) := rf_gv_c0
    have T : ∀ E', rf_cnd k E (0, ga, da) (0, 0, 0) = some E' → rf_okE ρ E' → W p l e R s m args below meth c H locs nn.2.1 nn.2.2 Q (F0 m t ls stc) := fun E' e1 h1 =>
      K (t, (E', L, st, w, nn)) (List.mem_append_left _ (by simp [rf_opt, e1])) ρ ad ws H locs ls stc (rf_rel_env h h1 hs.2)
    have F : ∀ E', rf_cnd (rf_not k) E (0, ga, da) (0, 0, 0) = some E' → rf_okE ρ E' → W p l e R s m args below meth c H locs nn.2.1 nn.2.2 Q (F0 m (pc + 3) ls stc) := fun E' e1 h1 =>
      K (pc + 3, (E', L, st, w, nn)) (List.mem_append_right _ (by simp [rf_opt, e1])) ρ ad ws H locs ls stc (rf_rel_env h h1 hs.2)
    have hE := h.2.1
    have ht' := rf_tgt_spec ht
    cases k with
    | eq =>
      refine lv_if_eq hx hb hd ht' (fun q => ?_) (fun q => ?_)
      · obtain ⟨E', e1, h1⟩ := rf_eq_spec hE gx gy q; exact T E' e1 h1
      · obtain ⟨E', e1, h1⟩ := rf_ne_spec hE gx gy q; exact F E' e1 h1
    | ne =>
      refine lv_if_ne hx hb hd ht' (fun q => ?_) (fun q => ?_)
      · obtain ⟨E', e1, h1⟩ := rf_ne_spec hE gx gy q; exact T E' e1 h1
      · obtain ⟨E', e1, h1⟩ := rf_eq_spec hE gx gy q; exact F E' e1 h1
    | lt =>
      refine lv_if_lt hx hb hd ht' (fun q => ?_) (fun q => ?_)
      · obtain ⟨E', e1, h1⟩ := rf_lt_spec hE gx gy q; exact T E' e1 h1
      · obtain ⟨E', e1, h1⟩ := rf_le_spec hE gy gx (Int32.not_lt.mp q); exact F E' e1 h1
    | ge =>
      refine lv_if_ge hx hb hd ht' (fun q => ?_) (fun q => ?_)
      · obtain ⟨E', e1, h1⟩ := rf_le_spec hE gy gx q; exact T E' e1 h1
      · obtain ⟨E', e1, h1⟩ := rf_lt_spec hE gx gy (Int32.not_le.mp q); exact F E' e1 h1
    | gt =>
      refine lv_if_gt hx hb hd ht' (fun q => ?_) (fun q => ?_)
      · obtain ⟨E', e1, h1⟩ := rf_lt_spec hE gy gx q; exact T E' e1 h1
      · obtain ⟨E', e1, h1⟩ := rf_le_spec hE gx gy (Int32.not_lt.mp q); exact F E' e1 h1
    | le =>
      refine lv_if_le hx hb hd ht' (fun q => ?_) (fun q => ?_)
      · obtain ⟨E', e1, h1⟩ := rf_le_spec hE gx gy q; exact T E' e1 h1
      · obtain ⟨E', e1, h1⟩ := rf_lt_spec hE gy gx (Int32.not_le.mp q); exact F E' e1 h1
theorem rf_o_goto (hx : p.tables.exec = Jvm.exec) (hb : c.code = cc) {pc t : Nat} {off : Int} {S : rf_AS} (hd : decode cc pc = .ok (.goto off, 3)) (ht : rf_tgt pc off = some t) (k : rf_G p l e R s m args below meth c Q D cl tys A H0 xt nL ρ0 t S) : rf_G p l e R s m args below meth c Q D cl tys A H0 xt nL ρ0 pc S := by
  intro ρ ad ws H locs ls stc h
  exact lv_goto hx hb hd (rf_tgt_spec ht) (k ρ ad ws H locs ls stc h)
end
