/-- how long an instruction is, where it is always as long -/
def rf_len (ins : Instr) : Option Nat := match ins with
  | .tableswitch _ _ _ _ => none
  | .lookupswitch _ _ => none
  | .bipush _ => some 2
  | .sipush _ => some 3
  | .ldc _ => some 2
  | .ldc_w _ => some 3
  | .ldc2_w _ => some 3
  | .iload _ => some 2
  | .lload _ => some 2
  | .aload _ => some 2
  | .istore _ => some 2
  | .lstore _ => some 2
  | .astore _ => some 2
  | .iinc _ _ => some 3
  | .if_icmp _ _ => some 3
  | .ifCond _ _ => some 3
  | .goto _ => some 3
  | .getfield _ => some 3
  | .putfield _ => some 3
  | .getstatic _ => some 3
  | .new _ => some 3
  | .newarray _ => some 2
  | .anewarray _ => some 3
  | .invokevirtual _ => some 3
  | .invokestatic _ => some 3
  | .invokespecial _ => some 3
  | _ => some 1
/-! THE CHECKER: a step that it takes, the machine takes -/
theorem rf_iref_spec {ρ : List Int} {ad : List Nat} {xt : Nat → Nat} {a : rf_AV} {v : Value} (h : rf_iref a.1 = true) (hv : rf_gv ρ ad xt a v) : ∃ x : Nat, v = .ref x := by
  obtain ⟨t, g, d⟩ := a
  simp only [rf_iref, Bool.or_eq_true] at h
  rcases h with h | h | h
  · cases Nat.eq_of_beq_eq_true h
    obtain ⟨q, -, rfl⟩ := hv
    exact ⟨q, rfl⟩
  · cases Nat.eq_of_beq_eq_true h
    exact ⟨_, hv⟩
  · cases Nat.eq_of_beq_eq_true h
    exact ⟨_, hv.1⟩
theorem rf_cat1 {ρ : List Int} {ad : List Nat} {xt : Nat → Nat} {a : rf_AV} {v : Value} (hv : rf_gv ρ ad xt a v) (h : ¬ Nat.beq a.1 1 = true) : v.category = 1 := by
  rw [rf_gv_cat hv, if_neg (fun z => h (by rw [z]; rfl))]
theorem rf_neg_int (x : Int32) : (0 - x).toInt = (-x.toInt).bmod (2 ^ 32) := by
  rw [Int32.toInt_sub]
  congr 1
  have : (0 : Int32).toInt = 0 := rfl
  omega
theorem rf_i2c (x : Int32) : 0 ≤ ((x.toUInt32 % 65536).toInt32).toInt ∧ ((x.toUInt32 % 65536).toInt32).toInt ≤ 65535 := by
  rw [pk_char]
  have h := nI_toInt (n := x.toBitVec.toNat % 65536) (by omega)
  rw [h]
  omega
section
variable {ρ : List Int} {ad : List Nat} {xt : Nat → Nat} {E : rf_EV} {g g' : Nat} {d d' : Int} {x y : Int32}
theorem rf_xadd_spec (hE : rf_okE ρ E) (h1 : rf_gv ρ ad xt (0, g, d) (.int x)) (h2 : rf_gv ρ ad xt (0, g', d') (.int y)) (h : rf_xadd E (0, g, d) (0, g', d') = true) : rf_XP xt 10 [] [x.toInt, y.toInt, (x + y).toInt] := by
  obtain ⟨x', ex, r, hr, hx⟩ := h1
  cases ex
  obtain ⟨y', ey, r', hr', hy⟩ := h2
  cases ey
  dsimp only at hr hr' hx hy
  unfold rf_xadd at h
  split at h
  next q q' hq hq' =>
    have i1 := rf_ivl hE hq hr
    have i2 := rf_ivl hE hq' hr'
    have := rf_in32_spec h
    dsimp only at this
    show (x + y).toInt = x.toInt + y.toInt
    rw [Int32.toInt_add]
    exact rf_bm (by omega) (by omega)
  next => cases h
theorem rf_xsub_spec (hE : rf_okE ρ E) (h1 : rf_gv ρ ad xt (0, g, d) (.int x)) (h2 : rf_gv ρ ad xt (0, g', d') (.int y)) (h : rf_xsub E (0, g, d) (0, g', d') = true) : rf_XP xt 8 [] [x.toInt, y.toInt, (x - y).toInt] := by
  obtain ⟨x', ex, r, hr, hx⟩ := h1
  cases ex
  obtain ⟨y', ey, r', hr', hy⟩ := h2
  cases ey
  dsimp only at hr hr' hx hy
  unfold rf_xsub at h
  split at h
  next q q' hq hq' =>
    have i1 := rf_ivl hE hq hr
    have i2 := rf_ivl hE hq' hr'
    have := rf_in32_spec h
    dsimp only at this
    show (x - y).toInt = x.toInt - y.toInt
    rw [Int32.toInt_sub]
    exact rf_bm (by omega) (by omega)
  next => cases h
theorem rf_xmul_spec (hE : rf_okE ρ E) (h1 : rf_gv ρ ad xt (0, g, d) (.int x)) (h2 : rf_gv ρ ad xt (0, g', d') (.int y)) (h : rf_xmul E (0, g, d) (0, g', d') = true) : rf_XP xt 11 [] [x.toInt, y.toInt, (x * y).toInt] := by
  obtain ⟨x', ex, r, hr, hx⟩ := h1
  cases ex
  obtain ⟨y', ey, r', hr', hy⟩ := h2
  cases ey
  dsimp only at hr hr' hx hy
  unfold rf_xmul at h
  split at h
  next q q' hq hq' =>
    have i1 := rf_ivl hE hq hr
    have i2 := rf_ivl hE hq' hr'
    simp only [Bool.and_eq_true, decide_eq_true_eq] at h
    obtain ⟨a1, a2, a3⟩ := h
    try dsimp only at a1 a2 a3
    show (x * y).toInt = x.toInt * y.toInt
    rw [Int32.toInt_mul]
    have b1 : 0 ≤ x.toInt * y.toInt := Int.mul_nonneg (by omega) (by omega)
    have b2 : x.toInt * y.toInt ≤ (q.2.1 + d) * (q'.2.1 + d') := Int.mul_le_mul (by omega) (by omega) (by omega) (by omega)
    exact rf_bm (by omega) (by omega)
  next => cases h
theorem rf_xdiv_spec (hE : rf_okE ρ E) (_ : rf_gv ρ ad xt (0, g, d) (.int x)) (h2 : rf_gv ρ ad xt (0, g', d') (.int y)) (h : rf_xdiv E (0, g, d) (0, g', d') = true) : rf_XP xt 2 [] [x.toInt, y.toInt, (x / y).toInt] := by
  obtain ⟨y', ey, r', hr', hy⟩ := h2
  cases ey
  dsimp only at hr' hy
  unfold rf_xdiv at h
  split at h
  next q' hq' =>
    have i2 := rf_ivl hE hq' hr'
    have := of_decide_eq_true h
    dsimp only at this
    show (x / y).toInt = x.toInt.tdiv y.toInt
    refine Int32.toInt_div_of_ne_right x y (fun z => ?_)
    rw [z] at hy
    have : (-1 : Int32).toInt = -1 := by decide
    omega
  next => cases h
theorem rf_xrem_spec (_ : rf_okE ρ E) (_ : rf_gv ρ ad xt (0, g, d) (.int x)) (_ : rf_gv ρ ad xt (0, g', d') (.int y)) (_ : rf_xdiv E (0, g, d) (0, g', d') = true) : rf_XP xt 3 [] [x.toInt, y.toInt, (x - x / y * y).toInt] := rem_toInt x y
end
section
variable {p : Program} {l : Launch} {e : Env} {R : Room} {s : State} {m : MethodId} {args : Array Value} {below : List Frame} {meth : Method} {c : Code} {Q : State → Prop}
variable {cc : ByteArray} {D : va_G} {cl : List vw_C} {tys : List (ClassId × FieldType)} {A : Nat → Prop} {H0 : Heap} {xt : Nat → Nat} {nL : Nat} {ρ0 : List Int × List Nat}
set_option maxHeartbeats 4000000 in
theorem rf_step_spec {own CO : String} {ct : List (Nat → FieldType)} {xs : List (List Int)} {N : (Nat → Prop) → State → Prop} {G Ts : List Cond} {co : Nat} {cx : rf_CX} {ins : Instr} {len pc : Nat} {S : rf_AS} {ss : List (Nat × rf_AS)} (hnL : cx.2.2.2.2.2.2.2.1 = nL) (hct : rf_CT p l e R s m args below meth c cc own D cl ct tys xt xs N G Ts CO co A H0 cx) (hd0 : decode cc pc = .ok (ins, len)) (hlen : rf_len ins = some len ∨ rf_len ins = none) (h : rf_step cl ct xs co cx ins len pc S = some ss) (kk : rf_K p l e R s m args below meth c Q D cl tys A H0 xt nL ρ0 ss) : rf_G p l e R s m args below meth c Q D cl tys A H0 xt nL ρ0 pc S := by
  subst hnL
  obtain ⟨⟨hx, hb, hml, hown, hts, hcl⟩, ⟨hK, hTY, hA, hH⟩, ⟨hFL, hNL, hSL, hIL, hML, hAL⟩, ⟨hX, hov, harr, hN, hNs⟩, ⟨hRF, hRC, hRS, hRL⟩, hoc, hini, hco, hsc⟩ := hct
  have hd : ∀ k, rf_len ins = some k → decode cc pc = .ok (ins, k) := by
    intro k hk
    rcases hlen with e | e
    · rw [hk] at e; cases e; exact hd0
    · rw [hk] at e; cases e
  unfold rf_step at h
  split at h
  next n =>
    have hd := hd _ rfl
    split at h
    next hn =>
      cases h
      exact rf_o_push (v := .int (Int32.ofInt n)) (fun ρ ad => rf_const_int (rf_ofInt (rf_in32_spec hn))) (fun H locs ls rest k => lv_iconst hx hb hd rfl k) (kk _ List.mem_cons_self)
    next => cases h
  next n =>
    have hd := hd _ rfl
    split at h
    next hn =>
      cases h
      exact rf_o_push (v := .int ((Int8.ofInt n).toInt32)) (fun ρ ad => rf_const_int (by rw [Int8.toInt_toInt32, Int8.toInt_ofInt]; exact Int.bmod_eq_of_le (by have e : (Int8.size : Int) = 256 := rfl; omega) (by have e : (Int8.size : Int) = 256 := rfl; omega))) (fun H locs ls rest k => lv_bipush hx hb hd rfl k) (kk _ List.mem_cons_self)
    next => cases h
  next n =>
    have hd := hd _ rfl
    split at h
    next hn =>
      cases h
      exact rf_o_push (v := .int ((Int16.ofInt n).toInt32)) (fun ρ ad => rf_const_int (by rw [Int16.toInt_toInt32, Int16.toInt_ofInt]; exact Int.bmod_eq_of_le (by have e : (Int16.size : Int) = 65536 := rfl; omega) (by have e : (Int16.size : Int) = 65536 := rfl; omega))) (fun H locs ls rest k => lv_sipush hx hb hd rfl k) (kk _ List.mem_cons_self)
    next => cases h
  next k =>
    have hd := hd _ rfl
    cases h
    refine rf_o_push (a := (1, 0, ((k.val : Nat) : Int))) (v := .long (Int64.ofNat k.val)) (fun ρ ad => ⟨_, rfl, 0, rfl, ?_⟩) (fun H locs ls rest k' => lv_lconst hx hb hd rfl k') (kk _ List.mem_cons_self)
    have hk := k.isLt
    have := lN_toInt (n := k.val) (by omega)
    dsimp only
    rw [Int.zero_add]
    exact this
  · have hd := hd _ rfl
    unfold rf_s_ld at h
    split at h
    next q hq =>
      cases h
      have hm := List.mem_of_find?_eq_some hq
      have hp := List.find?_some hq
      simp only [Bool.and_eq_true] at hp
      have e1 := Nat.eq_of_beq_eq_true hp.1
      have e2 := Nat.eq_of_beq_eq_true hp.2
      rw [← e2] at hd
      obtain ⟨v, v1, v2⟩ := hIL q hm
      exact rf_o_push v1 (fun H locs ls rest k => (v2 Q pc H locs _ _ ls rest).1 e1 hd k) (kk _ List.mem_cons_self)
    next => cases h
  · have hd := hd _ rfl
    unfold rf_s_ld at h
    split at h
    next q hq =>
      cases h
      have hm := List.mem_of_find?_eq_some hq
      have hp := List.find?_some hq
      simp only [Bool.and_eq_true] at hp
      have e1 := Nat.eq_of_beq_eq_true hp.1
      have e2 := Nat.eq_of_beq_eq_true hp.2
      rw [← e2] at hd
      obtain ⟨v, v1, v2⟩ := hIL q hm
      exact rf_o_push v1 (fun H locs ls rest k => (v2 Q pc H locs _ _ ls rest).2.1 e1 hd k) (kk _ List.mem_cons_self)
    next => cases h
  · have hd := hd _ rfl
    unfold rf_s_ld at h
    split at h
    next q hq =>
      cases h
      have hm := List.mem_of_find?_eq_some hq
      have hp := List.find?_some hq
      simp only [Bool.and_eq_true] at hp
      have e1 := Nat.eq_of_beq_eq_true hp.1
      have e2 := Nat.eq_of_beq_eq_true hp.2
      rw [← e2] at hd
      obtain ⟨v, v1, v2⟩ := hIL q hm
      exact rf_o_push v1 (fun H locs ls rest k => (v2 Q pc H locs _ _ ls rest).2.2.1 e1 hd k) (kk _ List.mem_cons_self)
    next => cases h
  · have hd := hd _ rfl
    refine rf_t_load h (fun a ha ρ ad v H locs cells slots ls rest hv hl k => ?_) kk
    obtain ⟨t, g, d⟩ := a
    cases Nat.eq_of_beq_eq_true ha
    obtain ⟨x, rfl, -⟩ := rf_gv_int hv
    exact lv_iload hx hb hd hl k
  · have hd := hd _ rfl
    refine rf_t_load h (fun a ha ρ ad v H locs cells slots ls rest hv hl k => ?_) kk
    obtain ⟨t, g, d⟩ := a
    cases Nat.eq_of_beq_eq_true ha
    obtain ⟨x, rfl, -⟩ := rf_gv_int hv
    exact lv_iload_n hx hb hd rfl hl k
  · have hd := hd _ rfl
    refine rf_t_load h (fun a ha ρ ad v H locs cells slots ls rest hv hl k => ?_) kk
    obtain ⟨t, g, d⟩ := a
    cases Nat.eq_of_beq_eq_true ha
    obtain ⟨x, rfl, -⟩ := rf_gv_long hv
    exact lv_lload hx hb hd hl k
  · have hd := hd _ rfl
    refine rf_t_load h (fun a ha ρ ad v H locs cells slots ls rest hv hl k => ?_) kk
    obtain ⟨t, g, d⟩ := a
    cases Nat.eq_of_beq_eq_true ha
    obtain ⟨x, rfl, -⟩ := rf_gv_long hv
    exact lv_lload_n hx hb hd rfl hl k
  · have hd := hd _ rfl
    refine rf_t_load h (fun a ha ρ ad v H locs cells slots ls rest hv hl k => ?_) kk
    obtain ⟨x, rfl⟩ := rf_iref_spec ha hv
    exact lv_aload hx hb hd hl k
  · have hd := hd _ rfl
    refine rf_t_load h (fun a ha ρ ad v H locs cells slots ls rest hv hl k => ?_) kk
    obtain ⟨x, rfl⟩ := rf_iref_spec ha hv
    exact lv_aload_n hx hb hd rfl hl k
  · have hd := hd _ rfl
    refine rf_t_store h (fun a ha hi ρ ad v H locs cells slots ls rest lv hv hl k => ?_) kk
    obtain ⟨t, g, d⟩ := a
    cases Nat.eq_of_beq_eq_true ha
    obtain ⟨x, rfl, -⟩ := rf_gv_int hv
    exact lv_istore hx hb hd hl hi rfl k
  · have hd := hd _ rfl
    refine rf_t_store h (fun a ha hi ρ ad v H locs cells slots ls rest lv hv hl k => ?_) kk
    obtain ⟨t, g, d⟩ := a
    cases Nat.eq_of_beq_eq_true ha
    obtain ⟨x, rfl, -⟩ := rf_gv_int hv
    exact lv_istore_n hx hb hd rfl hl hi rfl k
  · have hd := hd _ rfl
    exact rf_t_store2 h (fun hi ρ ad x H locs cells slots ls rest lv hl k => lv_lstore hx hb hd hl hi rfl k) kk
  · have hd := hd _ rfl
    exact rf_t_store2 h (fun hi ρ ad x H locs cells slots ls rest lv hl k => lv_lstore_n hx hb hd rfl hl hi rfl k) kk
  · have hd := hd _ rfl
    refine rf_t_store h (fun a ha hi ρ ad v H locs cells slots ls rest lv hv hl k => ?_) kk
    obtain ⟨x, rfl⟩ := rf_iref_spec ha hv
    exact lv_astore hx hb hd hl hi rfl k
  · have hd := hd _ rfl
    refine rf_t_store h (fun a ha hi ρ ad v H locs cells slots ls rest lv hv hl k => ?_) kk
    obtain ⟨x, rfl⟩ := rf_iref_spec ha hv
    exact lv_astore_n hx hb hd rfl hl hi rfl k
  · have hd := hd _ rfl
    unfold rf_s_inc at h
    split at h
    next a ha =>
      split at h
      next hc =>
        simp only [Bool.and_eq_true] at hc
        split at h
        next r hr =>
          cases h
          exact rf_o_iinc hx hb ha (Nat.eq_of_beq_eq_true hc.1) (rf_in32_spec hc.2.1) (Nat.le_of_ble_eq_true hc.2.2) hr hd (kk _ List.mem_cons_self)
        next => cases h
      next => cases h
    next => cases h
  · have hd := hd _ rfl
    refine rf_t_binf h (fun ρ ad E g d g' d' x y r H locs cells slots ls rest hE h1 h2 hr => ?_) (fun _ _ _ _ hr => rf_add_tag hr) kk
    exact ⟨_, rf_add_spec hE h1 h2 hr, fun k => lv_iadd hx hb hd k, fun hex => rf_xadd_spec hE h1 h2 hex, Int32.toInt_add x y⟩
  · have hd := hd _ rfl
    refine rf_t_binf h (fun ρ ad E g d g' d' x y r H locs cells slots ls rest hE h1 h2 hr => ?_) (fun _ _ _ _ hr => rf_sub_tag hr) kk
    exact ⟨_, rf_sub_spec hE h1 h2 hr, fun k => lv_isub hx hb hd k, fun hex => rf_xsub_spec hE h1 h2 hex, Int32.toInt_sub x y⟩
  · have hd := hd _ rfl
    refine rf_t_binf h (fun ρ ad E g d g' d' x y r H locs cells slots ls rest hE h1 h2 hr => ?_) (fun _ _ _ _ hr => rf_mul_tag hr) kk
    exact ⟨_, rf_mul_spec hE h1 h2 hr, fun k => lv_imul hx hb hd k, fun hex => rf_xmul_spec hE h1 h2 hex, Int32.toInt_mul x y⟩
  · have hd := hd _ rfl
    refine rf_t_binf h (fun ρ ad E g d g' d' x y r H locs cells slots ls rest hE h1 h2 hr => ?_) (fun _ _ _ _ hr => rf_div_tag hr) kk
    obtain ⟨k0, k1⟩ := rf_div_spec hE h1 h2 hr
    exact ⟨_, k1, fun k => lv_idiv hx hb hd k0 k, fun hex => rf_xdiv_spec hE h1 h2 hex, by show (x / y).toInt = (Int32.ofInt x.toInt / Int32.ofInt y.toInt).toInt; rw [Int32.ofInt_toInt, Int32.ofInt_toInt]⟩
  · have hd := hd _ rfl
    refine rf_t_binf h (fun ρ ad E g d g' d' x y r H locs cells slots ls rest hE h1 h2 hr => ?_) (fun _ _ _ _ hr => rf_rem_tag hr) kk
    obtain ⟨k0, k1⟩ := rf_rem_spec hE h1 h2 hr
    exact ⟨_, k1, fun k => lv_irem hx hb hd k0 k, fun hex => rf_xrem_spec hE h1 h2 hex, by show (x - x / y * y).toInt = (Int32.ofInt x.toInt - Int32.ofInt x.toInt / Int32.ofInt y.toInt * Int32.ofInt y.toInt).toInt; rw [Int32.ofInt_toInt, Int32.ofInt_toInt]⟩
  · have hd := hd _ rfl
    refine rf_t_unf h (fun ρ ad E g d x r H locs cells slots ls rest hE h1 hr => ?_) (fun _ _ _ hr => rf_neg_tag hr) kk
    exact ⟨_, rf_neg_spec hE h1 (rf_neg_int x) hr, fun k => lv_ineg hx hb hd k, rf_neg_int x⟩
  · have hd := hd _ rfl
    refine rf_t_binf h (fun ρ ad E g d g' d' x y r H locs cells slots ls rest hE h1 h2 hr => ?_) (fun _ _ _ _ hr => rf_and_tag hr) kk
    exact ⟨_, rf_and_spec hE h1 h2 hr, fun k => lv_iand hx hb hd k, fun h9 => Bool.noConfusion (show false = true from h9), by show (x &&& y).toInt = (Int32.ofInt x.toInt &&& Int32.ofInt y.toInt).toInt; rw [Int32.ofInt_toInt, Int32.ofInt_toInt]⟩
  · have hd := hd _ rfl
    refine rf_t_binf h (fun ρ ad E g d g' d' x y r H locs cells slots ls rest hE h1 h2 hr => ?_) (fun _ _ _ _ hr => by cases hr; rfl) kk
    cases hr
    exact ⟨_, rf_top_int hE _, fun k => lv_ior hx hb hd k, fun h9 => Bool.noConfusion (show false = true from h9), by show (x ||| y).toInt = (Int32.ofInt x.toInt ||| Int32.ofInt y.toInt).toInt; rw [Int32.ofInt_toInt, Int32.ofInt_toInt]⟩
  · have hd := hd _ rfl
    refine rf_t_binf h (fun ρ ad E g d g' d' x y r H locs cells slots ls rest hE h1 h2 hr => ?_) (fun _ _ _ _ hr => by cases hr; rfl) kk
    cases hr
    exact ⟨_, rf_top_int hE _, fun k => lv_ixor hx hb hd k, fun h9 => Bool.noConfusion (show false = true from h9), by show (x ^^^ y).toInt = (Int32.ofInt x.toInt ^^^ Int32.ofInt y.toInt).toInt; rw [Int32.ofInt_toInt, Int32.ofInt_toInt]⟩
  · have hd := hd _ rfl
    refine rf_t_binf h (fun ρ ad E g d g' d' x y r H locs cells slots ls rest hE h1 h2 hr => ?_) (fun _ _ _ _ hr => by cases hr; rfl) kk
    cases hr
    exact ⟨_, rf_top_int hE _, fun k => lv_ishl hx hb hd k, fun h9 => Bool.noConfusion (show false = true from h9), by show (x <<< (y &&& 31)).toInt = (Int32.ofInt x.toInt <<< (Int32.ofInt y.toInt &&& 31)).toInt; rw [Int32.ofInt_toInt, Int32.ofInt_toInt]⟩
  · have hd := hd _ rfl
    refine rf_t_binf h (fun ρ ad E g d g' d' x y r H locs cells slots ls rest hE h1 h2 hr => ?_) (fun _ _ _ _ hr => by cases hr; rfl) kk
    cases hr
    exact ⟨_, rf_top_int hE _, fun k => lv_ishr hx hb hd k, fun h9 => Bool.noConfusion (show false = true from h9), by show (x >>> (y &&& 31)).toInt = (Int32.ofInt x.toInt >>> (Int32.ofInt y.toInt &&& 31)).toInt; rw [Int32.ofInt_toInt, Int32.ofInt_toInt]⟩
  · have hd := hd _ rfl
    refine rf_t_binf h (fun ρ ad E g d g' d' x y r H locs cells slots ls rest hE h1 h2 hr => ?_) (fun _ _ _ _ hr => by cases hr; rfl) kk
    cases hr
    exact ⟨_, rf_top_int hE _, fun k => lv_iushr hx hb hd rfl k, fun h9 => Bool.noConfusion (show false = true from h9), by show ((x.toUInt32 >>> (y.toUInt32 &&& Int32.toUInt32 31)).toInt32).toInt = (((Int32.ofInt x.toInt).toUInt32 >>> ((Int32.ofInt y.toInt).toUInt32 &&& Int32.toUInt32 31)).toInt32).toInt; rw [Int32.ofInt_toInt, Int32.ofInt_toInt]⟩
  · have hd := hd _ rfl
    refine rf_t_lbinf h (fun ρ ad E g d g' d' x y r H locs cells slots ls rest hE h1 h2 hr => ?_) kk
    exact ⟨_, rf_ladd_spec hE h1 h2 hr, fun k => lv_ladd hx hb hd k, by show (x + y).toInt = (Int64.ofInt x.toInt + Int64.ofInt y.toInt).toInt; rw [Int64.ofInt_toInt, Int64.ofInt_toInt]⟩
  · have hd := hd _ rfl
    refine rf_t_lbinf h (fun ρ ad E g d g' d' x y r H locs cells slots ls rest hE h1 h2 hr => ?_) kk
    cases hr
    exact ⟨_, rf_ltop_long hE _, fun k => lv_lmul hx hb hd k, by show (x * y).toInt = (Int64.ofInt x.toInt * Int64.ofInt y.toInt).toInt; rw [Int64.ofInt_toInt, Int64.ofInt_toInt]⟩
  · have hd := hd _ rfl
    refine rf_t_lbinf h (fun ρ ad E g d g' d' x y r H locs cells slots ls rest hE h1 h2 hr => ?_) kk
    have hz := rf_lrem_spec hE h1 h2 hr
    exact ⟨_, hz.2, fun k => lv_lrem hx hb hd hz.1 k, by show (x - x / y * y).toInt = (Int64.ofInt x.toInt - Int64.ofInt x.toInt / Int64.ofInt y.toInt * Int64.ofInt y.toInt).toInt; rw [Int64.ofInt_toInt, Int64.ofInt_toInt]⟩
  · have hd := hd _ rfl
    refine rf_t_lbinf h (fun ρ ad E g d g' d' x y r H locs cells slots ls rest hE h1 h2 hr => ?_) kk
    have hz := rf_ldiv_spec hE h2 hr
    exact ⟨_, hz.2 _, fun k => lv_ldiv hx hb hd hz.1 k, by show (x / y).toInt = (Int64.ofInt x.toInt / Int64.ofInt y.toInt).toInt; rw [Int64.ofInt_toInt, Int64.ofInt_toInt]⟩
  · have hd := hd _ rfl
    refine rf_t_lbinf h (fun ρ ad E g d g' d' x y r H locs cells slots ls rest hE h1 h2 hr => ?_) kk
    cases hr
    exact ⟨_, rf_ltop_long hE _, fun k => lv_land hx hb hd k, by show (x &&& y).toInt = (Int64.ofInt x.toInt &&& Int64.ofInt y.toInt).toInt; rw [Int64.ofInt_toInt, Int64.ofInt_toInt]⟩
  · have hd := hd _ rfl
    refine rf_t_lbinf h (fun ρ ad E g d g' d' x y r H locs cells slots ls rest hE h1 h2 hr => ?_) kk
    cases hr
    exact ⟨_, rf_ltop_long hE _, fun k => lv_lor hx hb hd k, by show (x ||| y).toInt = (Int64.ofInt x.toInt ||| Int64.ofInt y.toInt).toInt; rw [Int64.ofInt_toInt, Int64.ofInt_toInt]⟩
  · have hd := hd _ rfl
    exact rf_t_lshf h (fun x y H locs cells slots ls rest => ⟨_, fun k => lv_lshl hx hb hd rfl k, by show (x <<< (y.toInt64 &&& 63)).toInt = (Int64.ofInt x.toInt <<< ((Int32.ofInt y.toInt).toInt64 &&& 63)).toInt; rw [Int64.ofInt_toInt, Int32.ofInt_toInt]⟩) kk
  · have hd := hd _ rfl
    refine rf_t_un h (fun ρ ad E g d x r H locs cells slots ls rest hE h1 hr => ?_) kk
    cases hr
    refine ⟨.long x.toInt64, rf_res_same hE ?_, fun k => lv_i2l hx hb hd rfl k⟩
    obtain ⟨x', ex, r0, q1, q2⟩ := h1
    cases ex
    exact ⟨_, rfl, r0, q1, by rw [Int32.toInt_toInt64]; exact q2⟩
  · have hd := hd _ rfl
    refine rf_t_lunf h (fun ρ ad E g d x r H locs cells slots ls rest hE h1 hr => ?_) (fun _ _ _ hr => rf_nar_tag hr) kk
    obtain ⟨x', ex, r0, q1, q2⟩ := h1
    cases ex
    dsimp only at q1 q2
    exact ⟨x.toInt32, rf_nar_spec hE q1 (fun a b => by rw [← q2] at a b ⊢; exact rf_l2i a b) ⟨rf_i32_lo _, rf_i32_hi _⟩ hr, fun k => lv_l2i hx hb hd rfl k, Int64.toInt_toInt32 x⟩
  · have hd := hd _ rfl
    refine rf_t_unf h (fun ρ ad E g d x r H locs cells slots ls rest hE h1 hr => ?_) (fun _ _ _ hr => rf_nar_tag hr) kk
    obtain ⟨x', ex, r0, q1, q2⟩ := h1
    cases ex
    dsimp only at q1 q2
    have sp := rf_i2b (x := x)
    exact ⟨_, rf_nar_spec hE q1 (fun a b => by rw [← q2] at a b ⊢; exact sp.1 a b) sp.2 hr, fun k => lv_i2b hx hb hd rfl k, by rw [Int8.toInt_toInt32]; exact Int32.toInt_toInt8 x⟩
  · have hd := hd _ rfl
    refine rf_t_unf h (fun ρ ad E g d x r H locs cells slots ls rest hE h1 hr => ?_) (fun _ _ _ hr => rf_nar_tag hr) kk
    obtain ⟨x', ex, r0, q1, q2⟩ := h1
    cases ex
    dsimp only at q1 q2
    have sp := rf_i2s (x := x)
    exact ⟨_, rf_nar_spec hE q1 (fun a b => by rw [← q2] at a b ⊢; exact sp.1 a b) sp.2 hr, fun k => lv_i2s hx hb hd rfl k, by rw [Int16.toInt_toInt32]; exact Int32.toInt_toInt16 x⟩
  · have hd := hd _ rfl
    refine rf_t_un h (fun ρ ad E g d x r H locs cells slots ls rest hE h1 hr => ?_) kk
    cases hr
    exact ⟨.int _, rf_fr_int hE (rf_i2c x).1 (rf_i2c x).2, fun k => lv_i2c hx hb hd rfl k⟩
  · have hd := hd _ rfl
    unfold rf_s_dup at h
    obtain ⟨E, L, st, w, nn⟩ := S
    dsimp only at h
    split at h
    next a st' =>
      split at h
      next => cases h
      next hc =>
        cases h
        refine rf_o_stk (fun ρ ad stc H locs ls hs => ?_) (kk _ List.mem_cons_self)
        match stc, hs with
        | v :: stc, hs => exact ⟨v :: v :: stc, ⟨hs.1, hs⟩, fun k => lv_dup hx hb hd (rf_cat1 hs.1 hc) k⟩
    next => cases h
  · have hd := hd _ rfl
    unfold rf_s_dup2 at h
    obtain ⟨E, L, st, w, nn⟩ := S
    dsimp only at h
    split at h
    next a b st' =>
      split at h
      next => cases h
      next hc =>
        cases h
        simp only [Bool.or_eq_true, not_or] at hc
        refine rf_o_stk (fun ρ ad stc H locs ls hs => ?_) (kk _ List.mem_cons_self)
        match stc, hs with
        | v :: v2 :: stc, hs => exact ⟨v :: v2 :: v :: v2 :: stc, ⟨hs.1, hs.2.1, hs⟩, fun k => lv_dup2_11 hx hb hd (rf_cat1 hs.1 hc.1) (rf_cat1 hs.2.1 hc.2) k⟩
    next => cases h
  · have hd := hd _ rfl
    unfold rf_s_pop at h
    obtain ⟨E, L, st, w, nn⟩ := S
    dsimp only at h
    split at h
    next a st' =>
      split at h
      next => cases h
      next hc =>
        cases h
        refine rf_o_stk (fun ρ ad stc H locs ls hs => ?_) (kk _ List.mem_cons_self)
        match stc, hs with
        | v :: stc, hs => exact ⟨stc, hs.2, fun k => lv_pop hx hb hd (rf_cat1 hs.1 hc) k⟩
    next => cases h
  · have hd := hd _ rfl
    unfold rf_s_pop2 at h
    obtain ⟨E, L, st, w, nn⟩ := S
    dsimp only at h
    split at h
    next a st' =>
      split at h
      next hc =>
        cases h
        refine rf_o_stk (fun ρ ad stc H locs ls hs => ?_) (kk _ List.mem_cons_self)
        match stc, hs with
        | v :: stc, hs => exact ⟨stc, hs.2, fun k => lv_pop2_2 hx hb hd (by rw [rf_gv_cat hs.1, if_pos (Nat.eq_of_beq_eq_true hc)]) k⟩
      next => cases h
    next => cases h
  · have hd := hd _ rfl
    unfold rf_s_lcmp at h
    obtain ⟨E, L, st, w, nn⟩ := S
    dsimp only at h
    split at h
    next b a st' =>
      split at h
      next hc =>
        cases h
        simp only [Bool.and_eq_true] at hc
        exact rf_o_lcmp hx hb (Nat.eq_of_beq_eq_true hc.1) (Nat.eq_of_beq_eq_true hc.2) hd kk
      next => cases h
    next => cases h
  · have hd := hd _ rfl
    exact rf_t_icmp hx hb hd h kk
  · have hd := hd _ rfl
    exact rf_t_if hx hb hd h kk
  · have hd := hd _ rfl
    split at h
    next t ht =>
      cases h
      exact rf_o_goto hx hb hd ht (kk _ List.mem_cons_self)
    next => cases h
  · unfold rf_s_tsw at h
    obtain ⟨E, L, st, w, nn⟩ := S
    dsimp only at h
    split at h
    next a st' =>
      split at h
      next hc => exact rf_o_tsw hx hb (Nat.eq_of_beq_eq_true hc) hd0 h kk
      next => cases h
    next => cases h
  · unfold rf_s_lsw at h
    obtain ⟨E, L, st, w, nn⟩ := S
    dsimp only at h
    split at h
    next a st' =>
      split at h
      next hc =>
        simp only [Bool.and_eq_true] at hc
        exact rf_o_lsw hx hb (Nat.eq_of_beq_eq_true hc.1) hd0 hc.2 h kk
      next => cases h
    next => cases h
  · have hd := hd _ rfl
    split at h
    next r hr =>
      cases h
      exact rf_t_get hx hb hts hcl hown hK hFL hd hr kk
    next => exact rf_t_kget hIL hd h kk
  · have hd := hd _ rfl
    exact rf_t_put hx hb hts hcl hown hK hFL hoc hini hd h kk
  · have hd := hd _ rfl
    unfold rf_s_gs at h
    split at h
    next q hq =>
      cases h
      have hm := List.mem_of_find?_eq_some hq
      have hp := List.find?_some hq
      have e2 := Nat.eq_of_beq_eq_true hp
      rw [← e2] at hd
      exact rf_o_gets hx hb hH hown hSL hm hd (kk _ List.mem_cons_self)
    next => cases h
  · have hd := hd _ rfl
    split at h
    next r hr =>
      cases h
      exact rf_t_ald hx hb hK hTY (by decide) rfl (fun _ => hd) (fun q n a ws H locs nc ns ls rest cA f x hP h1 h2 h3 k => va_iald hx hb hK hP q 0 h1 h2 h3 hd k) hr kk
    next =>
      split at h
      next r hr =>
        cases h
        exact rf_t_tld hx hb hH hX hd hr kk
      next => exact rf_t_sld hx hb hH hsc hd h kk
  · have hd := hd _ rfl
    split at h
    next r hr =>
      cases h
      exact rf_t_ald hx hb hK hTY (by decide) rfl (fun z => absurd z (by decide)) (fun q n a ws H locs nc ns ls rest cA f x hP h1 h2 h3 k => va_bald hx hb hK hP q 2 h1 h2 h3 hd k) hr kk
    next => exact rf_t_kld hIL hd h kk
  · have hd := hd _ rfl
    exact rf_t_ald hx hb hK hTY (by decide) rfl (fun z => absurd z (by decide)) (fun q n a ws H locs nc ns ls rest cA f x hP h1 h2 h3 k => va_sald hx hb hK hP q 3 h1 h2 h3 hd k) h kk
  · have hd := hd _ rfl
    exact rf_t_ast hx hb hK hTY (by decide) rfl (fun _ => hd) (fun q n a ws H locs nc ns ls rest cA f x y hP hD hS h1 h2 h3 k => va_iast hx hb hK hP hD hS q 0 h1 h2 h3 hd k) h kk
  · have hd := hd _ rfl
    exact rf_t_ast hx hb hK hTY (by decide) rfl (fun z => absurd z (by decide)) (fun q n a ws H locs nc ns ls rest cA f x y hP hD hS h1 h2 h3 k => va_bast hx hb hK hP hD hS q 2 h1 h2 h3 hd k) h kk
  · have hd := hd _ rfl
    exact rf_t_ast hx hb hK hTY (by decide) rfl (fun z => absurd z (by decide)) (fun q n a ws H locs nc ns ls rest cA f x y hP hD hS h1 h2 h3 k => va_sast hx hb hK hP hD hS q 3 h1 h2 h3 hd k) h kk
  · have hd := hd _ rfl
    exact rf_t_lald hx hb hK hTY hd h kk
  · have hd := hd _ rfl
    exact rf_t_last hx hb hK hTY hd h kk
  · have hd := hd _ rfl
    exact rf_t_aald hx hb hK hTY hd h kk
  · have hd := hd _ rfl
    exact rf_t_aast hx hb hK hTY hco hd h kk
  · have hd := hd _ rfl
    split at h
    next r hr =>
      cases h
      exact rf_t_alen hx hb hK hd hr kk
    next =>
      split at h
      next r hr =>
        cases h
        exact rf_t_klen hIL hd hr kk
      next => exact rf_t_slen hx hb hH hsc hd h kk
  · have hd := hd _ rfl
    exact rf_t_new hx hb hts hcl hown hK hA hNL hRC hRS hd h kk
  · have hd := hd _ rfl
    exact rf_t_newa hx hb hK hTY hA harr hRC hRS hd h kk
  · have hd := hd _ rfl
    exact rf_t_anew hx hb hown hAL hov hK hTY hA hRC hRS hd h kk
  · have hd := hd _ rfl
    exact rf_t_iv hH hK hA hN hNs hML hRC hRS hd h kk
  · have hd := hd _ rfl
    exact rf_t_is hx hb hml hown hTY hH hK hA hN hNs hML hRF hRC hRS hRL hd h kk
  · have hd := hd _ rfl
    exact rf_t_ii hx hb hml hown hH hK hA hN hNs hML hRF hRC hRS hRL hd h kk
  · cases h
end
