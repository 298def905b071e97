/-! THE CHECKER, the step -/
def rf_LD (p : Program) (l : Launch) (e : Env) (R : Room) (s : State) (m : MethodId) (args : Array Value) (below : List Frame) (meth : Method) (c : Code) (cc : ByteArray) (xt : Nat → Nat) (A : Nat → Prop) (H0 : Heap) (q : Nat × Nat × rf_AV) : Prop := ∃ v, (∀ (ρ : List Int) (ad : List Nat), rf_gv ρ ad xt q.2.2 v) ∧ ∀ (Q : State → Prop) (pc : Nat) (H : Heap) (locs : List Loc) (cells slots : Nat) (ls : Array Slot) (rest : List Value),
  (q.1 = 0 → decode cc pc = .ok (.ldc q.2.1, 2) → W p l e R s m args below meth c H locs cells slots Q (F0 m (pc + 2) ls (v :: rest)) → W p l e R s m args below meth c H locs cells slots Q (F0 m pc ls rest)) ∧
  (q.1 = 1 → decode cc pc = .ok (.ldc_w q.2.1, 3) → W p l e R s m args below meth c H locs cells slots Q (F0 m (pc + 3) ls (v :: rest)) → W p l e R s m args below meth c H locs cells slots Q (F0 m pc ls rest)) ∧
  (q.1 = 2 → decode cc pc = .ok (.ldc2_w q.2.1, 3) → W p l e R s m args below meth c H locs cells slots Q (F0 m (pc + 3) ls (v :: rest)) → W p l e R s m args below meth c H locs cells slots Q (F0 m pc ls rest)) ∧
  (∀ k, q.1 = 10 + 2 * k → va_S A H0 H locs → decode cc pc = .ok (.getfield q.2.1, 3) → W p l e R s m args below meth c H locs cells slots Q (F0 m (pc + 3) ls (v :: rest)) → W p l e R s m args below meth c H locs cells slots Q (F0 m pc ls (.ref (xt k) :: rest))) ∧
  (∀ k, q.1 = 11 + 2 * k → va_S A H0 H locs → decode cc pc = .ok (.arraylength, 1) → W p l e R s m args below meth c H locs cells slots Q (F0 m (pc + 1) ls (v :: rest)) → W p l e R s m args below meth c H locs cells slots Q (F0 m pc ls (.ref (xt k) :: rest))) ∧
  (∀ k, q.1 = 11 + 2 * k → va_S A H0 H locs → ∀ x : Int32, vp_in x q.2.1 → decode cc pc = .ok (.baload, 1) → (∀ y : Int32, -128 ≤ y.toInt → y.toInt ≤ 127 → W p l e R s m args below meth c H locs cells slots Q (F0 m (pc + 1) ls (.int y :: rest))) → W p l e R s m args below meth c H locs cells slots Q (F0 m pc ls (.int x :: .ref (xt k) :: rest)))
/-- constant objects: a field, a row's length, a byte of a row -/
def rf_s_kget (IL : List (Nat × Nat × rf_AV)) (idx pc : Nat) (S : rf_AS) : rf_SS := match S.2.2.1 with
  | a :: st => if Nat.beq a.1 4 then (match IL.find? (fun q => Nat.beq q.1 (10 + 2 * a.2.1) && Nat.beq q.2.1 idx) with
    | some q => some [(pc, (S.1, S.2.1, q.2.2 :: st, S.2.2.2))]
    | none => none) else none
  | _ => none
def rf_s_klen (IL : List (Nat × Nat × rf_AV)) (pc : Nat) (S : rf_AS) : rf_SS := match S.2.2.1 with
  | a :: st => if Nat.beq a.1 4 then (match IL.find? (fun q => Nat.beq q.1 (11 + 2 * a.2.1)) with
    | some q => some [(pc, (S.1, S.2.1, q.2.2 :: st, S.2.2.2))]
    | none => none) else none
  | _ => none
def rf_s_kld (IL : List (Nat × Nat × rf_AV)) (pc : Nat) (S : rf_AS) : rf_SS := match S.2.2.1 with
  | i :: a :: st => if Nat.beq a.1 4 then (match IL.find? (fun q => Nat.beq q.1 (11 + 2 * a.2.1)) with
    | some q => if rf_inb S.1 i q.2.1 then some [(pc, ((rf_fr S.1 0 (-128) 127).1, S.2.1, (rf_fr S.1 0 (-128) 127).2 :: st, S.2.2.2))] else none
    | none => none) else none
  | _ => none
def rf_s_ld (IL : List (Nat × Nat × rf_AV)) (k idx pc : Nat) (S : rf_AS) : rf_SS := match IL.find? (fun q => Nat.beq q.1 k && Nat.beq q.2.1 idx) with
  | some q => some [(pc, (S.1, S.2.1, q.2.2 :: S.2.2.1, S.2.2.2))]
  | none => none
def rf_s_gs (SL : List (Nat × rf_AV)) (idx pc : Nat) (S : rf_AS) : rf_SS := match SL.find? (fun q => Nat.beq q.1 idx) with
  | some q => some [(pc, (S.1, S.2.1, q.2 :: S.2.2.1, S.2.2.2))]
  | none => none
def rf_s_inc (i : Nat) (n : Int) (nL pc : Nat) (S : rf_AS) : rf_SS := match rf_lget S.2.1 i with
  | some a => if Nat.beq a.1 0 && (rf_in32 n n && Nat.blt i nL) then (match rf_off S.1 a n with
      | some r => some [(pc, (r.1, rf_lset S.2.1 i r.2, S.2.2.1, S.2.2.2))]
      | none => none) else none
  | none => none
def rf_s_dup (pc : Nat) (S : rf_AS) : rf_SS := match S.2.2.1 with
  | a :: st => if Nat.beq a.1 1 then none else some [(pc, (S.1, S.2.1, a :: a :: st, S.2.2.2))]
  | _ => none
def rf_s_dup2 (pc : Nat) (S : rf_AS) : rf_SS := match S.2.2.1 with
  | a :: b :: st => if Nat.beq a.1 1 || Nat.beq b.1 1 then none else some [(pc, (S.1, S.2.1, a :: b :: a :: b :: st, S.2.2.2))]
  | _ => none
def rf_s_pop (pc : Nat) (S : rf_AS) : rf_SS := match S.2.2.1 with
  | a :: st => if Nat.beq a.1 1 then none else some [(pc, (S.1, S.2.1, st, S.2.2.2))]
  | _ => none
def rf_s_pop2 (pc : Nat) (S : rf_AS) : rf_SS := match S.2.2.1 with
  | a :: st => if Nat.beq a.1 1 then some [(pc, (S.1, S.2.1, st, S.2.2.2))] else none
  | _ => none
def rf_s_lcmp (pc : Nat) (S : rf_AS) : rf_SS := match S.2.2.1 with
  | b :: a :: st => if Nat.beq a.1 1 && Nat.beq b.1 1 then some (rf_opt pc (rf_lt S.1 a b) S.2.1 ((0, 0, -1) :: st) S.2.2.2 ++ (rf_opt pc (rf_eq S.1 a b) S.2.1 ((0, 0, 0) :: st) S.2.2.2 ++ rf_opt pc (rf_lt S.1 b a) S.2.1 ((0, 0, 1) :: st) S.2.2.2)) else none
  | _ => none
def rf_s_tsw (d lo hi : Int) (offs : Array Int) (pc : Nat) (S : rf_AS) : rf_SS := match S.2.2.1 with
  | a :: st => if Nat.beq a.1 0 then rf_tswAll pc S.1 a d lo hi offs S.2.1 st S.2.2.2 else none
  | _ => none
def rf_s_lsw (d : Int) (ps : Array (Int × Int)) (pc : Nat) (S : rf_AS) : rf_SS := match S.2.2.1 with
  | a :: st => if Nat.beq a.1 0 && (ps.toList.zip (ps.toList.drop 1)).all (fun (a, next) => a.1 < next.1) then rf_lsw pc a S.2.1 st S.2.2.2 d S.1 ps.toList else none
  | _ => none
/-- the script: its length, a number of it -/
def rf_SC (xt : Nat → Nat) (A : Nat → Prop) (s : State) : Prop := ∃ f : Nat → Int32, va_X (xt 11) (xt 12) f s s.heap ∧ xt 11 < s.heap.size ∧ ¬ A (xt 11) ∧ xt 12 ≤ 2147483647 ∧ ∀ j, j < xt 12 → (f j).toInt = ((xt (13 + j) : Nat) : Int) - 2147483648
def rf_s_slen (own pc : Nat) (S : rf_AS) : rf_SS := match S.2.2.1 with
  | a :: st => if Nat.beq a.1 5 && Nat.beq own 98 then some [(pc, (S.1, S.2.1, (0, a.2.1, a.2.2) :: st, S.2.2.2))] else none
  | _ => none
def rf_q19 (E : rf_EV) (i : rf_AV) (g : rf_FC) : Bool := match g with
  | (19, [], [j, _]) => rf_same E j.2.1 j.2.2 i.2.1 i.2.2
  | _ => false
/-- a number of the script that is told already -/
def rf_m19 (E : rf_EV) (fs : List rf_FC) (i : rf_AV) : Option rf_AV := match fs.find? (rf_q19 E i) with
  | some (_, _, [_, v]) => some v
  | _ => none
theorem rf_m19_spec {xt : Nat → Nat} {ρ : List Int} {E : rf_EV} (hE : rf_okE ρ E) {es : List va_E} {fs : List rf_FC} (hf : rf_facts xt ρ es fs) {i v : rf_AV} {iv : Int} (hi : rf_num ρ i iv) (h : rf_m19 E fs i = some v) : ∃ vv, rf_num ρ v vv ∧ vv = ((xt (13 + iv.toNat) : Nat) : Int) - 2147483648 := by
  unfold rf_m19 at h
  split at h
  next k qs j v' hg =>
    cases h
    have hm := hf _ (List.mem_of_find?_eq_some hg)
    have hp := List.find?_some hg
    unfold rf_q19 at hp
    split at hp
    next j' v'' heq =>
      cases heq
      obtain ⟨xs, hx, hX⟩ := hm
      match xs, hx with
      | [jv, vv], hx =>
        obtain ⟨r, r1, r2⟩ := hx.1
        obtain ⟨r', r1', r2'⟩ := hi
        have e := rf_same_spec hE hp r1 r1'
        have e2 : jv = iv := by omega
        subst e2
        exact ⟨vv, hx.2.1, hX.2⟩
    next => cases hp
  next => cases h
def rf_s_sld (own pc : Nat) (S : rf_AS) : rf_SS := match S.2.2.1 with
  | i :: a :: st => if Nat.beq a.1 5 && (Nat.beq own 98 && (rf_nn S.1 i && (Nat.beq i.1 0 && rf_leq S.1 (0, i.2.1, i.2.2 + 1) (0, a.2.1, a.2.2)))) then (match rf_m19 S.1 S.2.2.2.2.1 i with
      | some v => some [(pc, (S.1, S.2.1, (0, v.2.1, v.2.2) :: st, S.2.2.2))]
      | none => some [(pc, ((rf_top S.1).1, S.2.1, (rf_top S.1).2 :: st, S.2.2.2.1, (19, [], [i, (rf_top S.1).2]) :: S.2.2.2.2.1, S.2.2.2.2.2))]) else none
  | _ => none
def rf_iref (t : Nat) : Bool := Nat.beq t 2 || (Nat.beq t 4 || Nat.beq t 5)
def rf_b8 (E : rf_EV) (a : rf_AV) : Option (rf_EV × rf_AV) := rf_nar E a (-128) 127
def rf_b16 (E : rf_EV) (a : rf_AV) : Option (rf_EV × rf_AV) := rf_nar E a (-32768) 32767
def rf_b32 (E : rf_EV) (a : rf_AV) : Option (rf_EV × rf_AV) := rf_nar E a (-2147483648) 2147483647
def rf_bc (E : rf_EV) (_ : rf_AV) : Option (rf_EV × rf_AV) := some (rf_fr E 0 0 65535)
def rf_no (_ : rf_EV) (_ _ : rf_AV) : Bool := false
noncomputable def rf_step (cl : List vw_C) (ct : List (Nat → FieldType)) (xs : List (List Int)) (co : Nat) (cx : rf_CX) (ins : Instr) (len pc : Nat) (S : rf_AS) : rf_SS := match ins with
  | .iconst n => if rf_in32 n n then some [(pc + 1, (S.1, S.2.1, (0, 0, n) :: S.2.2.1, S.2.2.2))] else none
  | .bipush n => if -128 ≤ n ∧ n ≤ 127 then some [(pc + 2, (S.1, S.2.1, (0, 0, n) :: S.2.2.1, S.2.2.2))] else none
  | .sipush n => if -32768 ≤ n ∧ n ≤ 32767 then some [(pc + 3, (S.1, S.2.1, (0, 0, n) :: S.2.2.1, S.2.2.2))] else none
  | .lconst k => some [(pc + 1, (S.1, S.2.1, (1, 0, ((k.val : Nat) : Int)) :: S.2.2.1, S.2.2.2))]
  | .ldc i => rf_s_ld cx.2.2.2.1 0 i (pc + 2) S
  | .ldc_w i => rf_s_ld cx.2.2.2.1 1 i (pc + 3) S
  | .ldc2_w i => rf_s_ld cx.2.2.2.1 2 i (pc + 3) S
  | .iload i => rf_s_load (Nat.beq 0) (pc + 2) i S
  | .iload_n i => rf_s_load (Nat.beq 0) (pc + 1) i.val S
  | .lload i => rf_s_load (Nat.beq 1) (pc + 2) i S
  | .lload_n i => rf_s_load (Nat.beq 1) (pc + 1) i.val S
  | .aload i => rf_s_load rf_iref (pc + 2) i S
  | .aload_n i => rf_s_load rf_iref (pc + 1) i.val S
  | .istore i => rf_s_store (Nat.beq 0) (pc + 2) i cx.2.2.2.2.2.2.2.1 S
  | .istore_n i => rf_s_store (Nat.beq 0) (pc + 1) i.val cx.2.2.2.2.2.2.2.1 S
  | .lstore i => rf_s_store2 (pc + 2) i cx.2.2.2.2.2.2.2.1 S
  | .lstore_n i => rf_s_store2 (pc + 1) i.val cx.2.2.2.2.2.2.2.1 S
  | .astore i => rf_s_store rf_iref (pc + 2) i cx.2.2.2.2.2.2.2.1 S
  | .astore_n i => rf_s_store rf_iref (pc + 1) i.val cx.2.2.2.2.2.2.2.1 S
  | .iinc i n => rf_s_inc i n cx.2.2.2.2.2.2.2.1 (pc + 3) S
  | .iadd => rf_s_binf rf_add rf_xadd 10 0 cx.2.2.2.2.2.2.1.2.2 (pc + 1) S
  | .isub => rf_s_binf rf_sub rf_xsub 8 1 cx.2.2.2.2.2.2.1.2.2 (pc + 1) S
  | .imul => rf_s_binf rf_mul rf_xmul 11 2 cx.2.2.2.2.2.2.1.2.2 (pc + 1) S
  | .idiv => rf_s_binf rf_div rf_xdiv 2 20 cx.2.2.2.2.2.2.1.2.2 (pc + 1) S
  | .irem => rf_s_binf rf_rem rf_xdiv 3 21 cx.2.2.2.2.2.2.1.2.2 (pc + 1) S
  | .ineg => rf_s_unf rf_neg 0 3 cx.2.2.2.2.2.2.1.2.2 (pc + 1) S
  | .iand => rf_s_binf rf_and rf_no 0 11 cx.2.2.2.2.2.2.1.2.2 (pc + 1) S
  | .ior => rf_s_binf rf_tp rf_no 0 12 cx.2.2.2.2.2.2.1.2.2 (pc + 1) S
  | .ixor => rf_s_binf rf_tp rf_no 0 4 cx.2.2.2.2.2.2.1.2.2 (pc + 1) S
  | .ishl => rf_s_binf rf_tp rf_no 0 13 cx.2.2.2.2.2.2.1.2.2 (pc + 1) S
  | .ishr => rf_s_binf rf_tp rf_no 0 14 cx.2.2.2.2.2.2.1.2.2 (pc + 1) S
  | .iushr => rf_s_binf rf_tp rf_no 0 15 cx.2.2.2.2.2.2.1.2.2 (pc + 1) S
  | .ladd => rf_s_lbinf rf_ladd 1 16 cx.2.2.2.2.2.2.1.2.2 (pc + 1) S
  | .lmul => rf_s_lbinf rf_ltp 1 17 cx.2.2.2.2.2.2.1.2.2 (pc + 1) S
  | .lrem => rf_s_lbinf rf_lrem 1 19 cx.2.2.2.2.2.2.1.2.2 (pc + 1) S
  | .ldiv => rf_s_lbinf rf_ldiv 1 18 cx.2.2.2.2.2.2.1.2.2 (pc + 1) S
  | .land => rf_s_lbinf rf_ltp 1 9 cx.2.2.2.2.2.2.1.2.2 (pc + 1) S
  | .lor => rf_s_lbinf rf_ltp 1 10 cx.2.2.2.2.2.2.1.2.2 (pc + 1) S
  | .lshl => rf_s_lbinf rf_ltp 0 8 cx.2.2.2.2.2.2.1.2.2 (pc + 1) S
  | .i2l => rf_s_un rf_i2l 0 (pc + 1) S
  | .l2i => rf_s_unf rf_b32 1 5 cx.2.2.2.2.2.2.1.2.2 (pc + 1) S
  | .i2b => rf_s_unf rf_b8 0 6 cx.2.2.2.2.2.2.1.2.2 (pc + 1) S
  | .i2s => rf_s_unf rf_b16 0 7 cx.2.2.2.2.2.2.1.2.2 (pc + 1) S
  | .i2c => rf_s_un rf_bc 0 (pc + 1) S
  | .dup => rf_s_dup (pc + 1) S
  | .dup2 => rf_s_dup2 (pc + 1) S
  | .pop => rf_s_pop (pc + 1) S
  | .pop2 => rf_s_pop2 (pc + 1) S
  | .lcmp => rf_s_lcmp (pc + 1) S
  | .if_icmp k off => rf_s_icmp k off pc S
  | .ifCond k off => rf_s_if k off pc S
  | .goto off => (match rf_tgt pc off with
    | some t => some [(t, S)]
    | none => none)
  | .tableswitch d lo hi offs => rf_s_tsw d lo hi offs pc S
  | .lookupswitch d ps => rf_s_lsw d ps pc S
  | .getfield i => (match rf_s_get cx.1 i (pc + 3) S with
    | some r => some r
    | none => rf_s_kget cx.2.2.2.1 i (pc + 3) S)
  | .putfield i => rf_s_put cl ct cx.1 cx.2.2.2.2.2.2.1.1 cx.2.2.2.2.2.2.1.2.1 i (pc + 3) S
  | .getstatic i => rf_s_gs cx.2.2.1 i (pc + 3) S
  | .iaload => (match rf_s_ald 0 (pc + 1) S with
    | some r => some r
    | none => (match rf_s_tld xs (pc + 1) S with
      | some r => some r
      | none => rf_s_sld cx.2.2.2.2.2.2.1.1 (pc + 1) S))
  | .baload => (match rf_s_ald 2 (pc + 1) S with
    | some r => some r
    | none => rf_s_kld cx.2.2.2.1 (pc + 1) S)
  | .saload => rf_s_ald 3 (pc + 1) S
  | .iastore => rf_s_ast 0 (pc + 1) S
  | .bastore => rf_s_ast 2 (pc + 1) S
  | .sastore => rf_s_ast 3 (pc + 1) S
  | .laload => rf_s_lald (pc + 1) S
  | .lastore => rf_s_last (pc + 1) S
  | .aaload => rf_s_aald (pc + 1) S
  | .aastore => rf_s_aast co (pc + 1) S
  | .arraylength => (match rf_s_alen (pc + 1) S with
    | some r => some r
    | none => (match rf_s_klen cx.2.2.2.1 (pc + 1) S with
      | some r => some r
      | none => rf_s_slen cx.2.2.2.2.2.2.1.1 (pc + 1) S))
  | .new i => rf_s_new cl ct cx.2.1 cx.2.2.2.2.2.2.2.2.2.1 cx.2.2.2.2.2.2.2.2.2.2.1 i (pc + 3) S
  | .newarray t => rf_s_newa t cx.2.2.2.2.2.2.2.2.2.1 cx.2.2.2.2.2.2.2.2.2.2.1 (pc + 2) S
  | .anewarray i => rf_s_anew cx.2.2.2.2.2.1 cx.2.2.2.2.2.2.2.2.2.1 cx.2.2.2.2.2.2.2.2.2.2.1 i (pc + 3) S
  | .invokevirtual i => rf_s_iv cx.2.2.2.2.1 cx.2.2.2.2.2.2.2.2.2.1 cx.2.2.2.2.2.2.2.2.2.2.1 i pc S
  | .invokestatic i => rf_s_is cx.2.2.2.2.1 cx.2.2.2.2.2.2.1.2.2 cx.2.2.2.2.2.2.2.2.1 cx.2.2.2.2.2.2.2.2.2.1 cx.2.2.2.2.2.2.2.2.2.2.1 cx.2.2.2.2.2.2.2.2.2.2.2 i pc S
  | .invokespecial i => rf_s_ii cx.2.2.2.2.1 cx.2.2.2.2.2.2.2.2.1 cx.2.2.2.2.2.2.2.2.2.1 cx.2.2.2.2.2.2.2.2.2.2.1 cx.2.2.2.2.2.2.2.2.2.2.2 i pc S
  | _ => none
/-- all that a method's walk rests on -/
def rf_CT (p : Program) (l : Launch) (e : Env) (R : Room) (s : State) (m : MethodId) (args : Array Value) (below : List Frame) (meth : Method) (c : Code) (cc : ByteArray) (own : String) (D : va_G) (cl : List vw_C) (ct : List (Nat → FieldType)) (tys : List (ClassId × FieldType)) (xt : Nat → Nat) (xs : List (List Int)) (N : (Nat → Prop) → State → Prop) (G Ts : List Cond) (CO : String) (co : Nat) (A : Nat → Prop) (H0 : Heap) (cx : rf_CX) : Prop :=
  (p.tables.exec = Jvm.exec ∧ c.code = cc ∧ c.maxLocals = cx.2.2.2.2.2.2.2.1 ∧ s.vm.findClass own = some m.cls ∧ (∀ w ∈ Ts, w.before args s = true) ∧ rf_CL cl ct Ts) ∧ (va_K D cl tys s ∧ rf_TY tys CO ∧ (∀ q, H0.size ≤ q → A q) ∧ H0 = s.heap) ∧
  (rf_FLok own cl cx.1 args s ∧ rf_NLok own cl cx.2.1 args s ∧ rf_SLok own cx.2.2.1 xt A args s ∧ (∀ q ∈ cx.2.2.2.1, rf_LD p l e R s m args below meth c cc xt A H0 q) ∧ (∀ q ∈ cx.2.2.2.2.1, rf_MLok p l e R s m args below meth c cc cx.2.2.2.2.2.2.2.1 own D cl tys xt N G q) ∧ ∀ i ∈ cx.2.2.2.2.2.1, (Cond.classLink own i CO).before args s = true) ∧
  (rf_EX xs xt A s ∧ va_AO CO s ∧ (∀ t : ArrayType, rf_akd t ≤ 3 → (Cond.arrayClass (newarray.typeOf t)).before args s = true) ∧ rf_Nok N ∧ N A s) ∧
  (cx.2.2.2.2.2.2.2.2.1 ≤ R.frames ∧ cx.2.2.2.2.2.2.2.2.2.1 ≤ R.cells ∧ cx.2.2.2.2.2.2.2.2.2.2.1 ≤ R.slots ∧ cx.2.2.2.2.2.2.2.2.2.2.2 ≤ R.locals) ∧
  ((∀ C, cl[cx.2.2.2.2.2.2.1.1]? = some C → C.1 = own) ∧ (cx.2.2.2.2.2.2.1.2.1 = true → meth.name = "<init>") ∧ (∃ T N, cl[co]? = some (CO, T, N)) ∧ (cx.2.2.2.2.2.2.1.1 = 98 → rf_SC xt A s))
theorem rf_rng_tag {E : rf_EV} {lo hi : Int} : (rf_rng E lo hi).2.1 = 0 := by
  unfold rf_rng
  split <;> rfl
theorem rf_off_tag {E : rf_EV} {a : rf_AV} {n : Int} {r : rf_EV × rf_AV} (h : rf_off E a n = some r) : r.2.1 = 0 := by
  unfold rf_off at h
  split at h
  · cases h
  · split at h <;> (cases h; rfl)
theorem rf_add_tag {E : rf_EV} {a b : rf_AV} {r : rf_EV × rf_AV} (h : rf_add E a b = some r) : r.2.1 = 0 := by
  unfold rf_add at h
  split at h
  · exact rf_off_tag h
  · split at h
    · exact rf_off_tag h
    · split at h
      · cases h; exact rf_rng_tag
      · cases h
theorem rf_sub_tag {E : rf_EV} {a b : rf_AV} {r : rf_EV × rf_AV} (h : rf_sub E a b = some r) : r.2.1 = 0 := by
  unfold rf_sub at h
  split at h
  · exact rf_off_tag h
  · split at h
    · split at h <;> (cases h; rfl)
    · split at h
      · cases h; exact rf_rng_tag
      · cases h
theorem rf_mul_tag {E : rf_EV} {a b : rf_AV} {r : rf_EV × rf_AV} (h : rf_mul E a b = some r) : r.2.1 = 0 := by
  unfold rf_mul at h
  split at h
  · try dsimp only at h
    repeat' split at h
    all_goals (cases h; first | rfl | exact rf_rng_tag)
  · cases h
theorem rf_div_tag {E : rf_EV} {a b : rf_AV} {r : rf_EV × rf_AV} (h : rf_div E a b = some r) : r.2.1 = 0 := by
  unfold rf_div at h
  split at h
  · try dsimp only at h
    repeat' split at h
    all_goals (cases h; try rfl)
  · cases h
theorem rf_rem_tag {E : rf_EV} {a b : rf_AV} {r : rf_EV × rf_AV} (h : rf_rem E a b = some r) : r.2.1 = 0 := by
  unfold rf_rem at h
  split at h
  · try dsimp only at h
    repeat' split at h
    all_goals (cases h; try rfl)
  · cases h
theorem rf_and_tag {E : rf_EV} {a b : rf_AV} {r : rf_EV × rf_AV} (h : rf_and E a b = some r) : r.2.1 = 0 := by
  unfold rf_and at h
  split at h
  · try dsimp only at h
    repeat' split at h
    all_goals (cases h; try rfl)
  · cases h
theorem rf_neg_tag {E : rf_EV} {a : rf_AV} {r : rf_EV × rf_AV} (h : rf_neg E a = some r) : r.2.1 = 0 := by
  unfold rf_neg at h
  split at h
  · cases h; exact rf_rng_tag
  · cases h
theorem rf_nar_tag {E : rf_EV} {a : rf_AV} {lo hi : Int} {r : rf_EV × rf_AV} (h : rf_nar E a lo hi = some r) : r.2.1 = 0 := by
  unfold rf_nar at h
  split at h
  · split at h <;> (cases h; rfl)
  · cases h
section
variable {p : Program} {l : Launch} {e : Env} {R : Room} {s : State} {m : MethodId} {args : Array Value} {below : List Frame} {meth : Method} {c : Code} {Q : State → Prop}
variable {cc : ByteArray} {D : va_G} {cl : List vw_C} {tys : List (ClassId × FieldType)} {A : Nat → Prop} {H0 : Heap} {xt : Nat → Nat} {nL : Nat} {ρ0 : List Int × List Nat}
theorem rf_t_kget {IL : List (Nat × Nat × rf_AV)} {pc idx : Nat} {S : rf_AS} {ss : List (Nat × rf_AS)} (hIL : ∀ q ∈ IL, rf_LD p l e R s m args below meth c cc xt A H0 q) (hd : decode cc pc = .ok (.getfield idx, 3)) (h : rf_s_kget IL idx (pc + 3) S = some ss) (kk : rf_K p l e R s m args below meth c Q D cl tys A H0 xt nL ρ0 ss) : rf_G p l e R s m args below meth c Q D cl tys A H0 xt nL ρ0 pc S := by
  obtain ⟨E, L, st, w, nn⟩ := S
  unfold rf_s_kget at h
  try dsimp only at h
  split at h
  next a st' =>
    split at h
    next ha =>
      obtain ⟨t, k, d⟩ := a
      cases Nat.eq_of_beq_eq_true ha
      split at h
      next q hq =>
        have hm := List.mem_of_find?_eq_some hq
        have hp := List.find?_some hq
        simp only [Bool.and_eq_true] at hp
        have e1 := Nat.eq_of_beq_eq_true hp.1
        have e2 := Nat.eq_of_beq_eq_true hp.2
        rw [← e2] at hd
        obtain ⟨v, v1, v2⟩ := hIL q hm
        cases h
        intro ρ ad ws H locs ls stc hR
        have hs := hR.2.2.2.2.2.2
        match stc, hR, hs with
        | v0 :: stc, hR, hs =>
          have e0 : v0 = .ref (xt k) := hs.1
          subst e0
          exact (v2 Q pc H locs _ _ ls stc).2.2.2.1 k e1 hR.2.2.2.2.1.2.2.1 hd (kk _ List.mem_cons_self ρ ad ws H locs ls _ ⟨hR.1, hR.2.1, hR.2.2.1, hR.2.2.2.1, hR.2.2.2.2.1, hR.2.2.2.2.2.1, ⟨v1 ρ ad, hs.2⟩⟩)
      next => cases h
    next => cases h
  next => cases h
theorem rf_t_klen {IL : List (Nat × Nat × rf_AV)} {pc : Nat} {S : rf_AS} {ss : List (Nat × rf_AS)} (hIL : ∀ q ∈ IL, rf_LD p l e R s m args below meth c cc xt A H0 q) (hd : decode cc pc = .ok (.arraylength, 1)) (h : rf_s_klen IL (pc + 1) S = some ss) (kk : rf_K p l e R s m args below meth c Q D cl tys A H0 xt nL ρ0 ss) : rf_G p l e R s m args below meth c Q D cl tys A H0 xt nL ρ0 pc S := by
  obtain ⟨E, L, st, w, nn⟩ := S
  unfold rf_s_klen at h
  try dsimp only at h
  split at h
  next a st' =>
    split at h
    next ha =>
      obtain ⟨t, k, d⟩ := a
      cases Nat.eq_of_beq_eq_true ha
      split at h
      next q hq =>
        have hm := List.mem_of_find?_eq_some hq
        have hp := List.find?_some hq
        have e1 := Nat.eq_of_beq_eq_true hp
        obtain ⟨v, v1, v2⟩ := hIL q hm
        cases h
        intro ρ ad ws H locs ls stc hR
        have hs := hR.2.2.2.2.2.2
        match stc, hR, hs with
        | v0 :: stc, hR, hs =>
          have e0 : v0 = .ref (xt k) := hs.1
          subst e0
          exact (v2 Q pc H locs _ _ ls stc).2.2.2.2.1 k e1 hR.2.2.2.2.1.2.2.1 hd (kk _ List.mem_cons_self ρ ad ws H locs ls _ ⟨hR.1, hR.2.1, hR.2.2.1, hR.2.2.2.1, hR.2.2.2.2.1, hR.2.2.2.2.2.1, ⟨v1 ρ ad, hs.2⟩⟩)
      next => cases h
    next => cases h
  next => cases h
theorem rf_t_kld {IL : List (Nat × Nat × rf_AV)} {pc : Nat} {S : rf_AS} {ss : List (Nat × rf_AS)} (hIL : ∀ q ∈ IL, rf_LD p l e R s m args below meth c cc xt A H0 q) (hd : decode cc pc = .ok (.baload, 1)) (h : rf_s_kld IL (pc + 1) S = some ss) (kk : rf_K p l e R s m args below meth c Q D cl tys A H0 xt nL ρ0 ss) : rf_G p l e R s m args below meth c Q D cl tys A H0 xt nL ρ0 pc S := by
  obtain ⟨E, L, st, w, nn⟩ := S
  unfold rf_s_kld at h
  dsimp only at h
  split at h
  next i a st' =>
    split at h
    next ha =>
      obtain ⟨t, k, d⟩ := a
      cases Nat.eq_of_beq_eq_true ha
      split at h
      next q hq =>
        have hm := List.mem_of_find?_eq_some hq
        have hp := List.find?_some hq
        have e1 := Nat.eq_of_beq_eq_true hp
        obtain ⟨v, v1, v2⟩ := hIL q hm
        split at h
        next hi =>
          cases h
          intro ρ ad ws H locs ls stc hR
          have hs := hR.2.2.2.2.2.2
          match stc, hR, hs with
          | v9 :: v0 :: stc, hR, hs =>
            have e0 : v0 = .ref (xt k) := hs.2.1
            subst e0
            obtain ⟨x, rfl, x1, -⟩ := rf_inb_spec hR.2.1 hi hs.1
            refine (v2 Q pc H locs _ _ ls stc).2.2.2.2.2 k e1 hR.2.2.2.2.1.2.2.1 x x1 hd (fun y y1 y2 => ?_)
            obtain ⟨l1, hr⟩ := rf_rel_res hR (rf_fr_int (lo := -128) (hi := 127) hR.2.1 y1 y2) hs.2.2
            exact kk _ List.mem_cons_self (ρ ++ l1) ad ws H locs ls _ hr
        next => cases h
      next => cases h
    next => cases h
  next => cases h
theorem rf_t_slen {own0 pc : Nat} {S : rf_AS} {ss : List (Nat × rf_AS)} (hx : p.tables.exec = Jvm.exec) (hb : c.code = cc) (hH : H0 = s.heap) (hsc : own0 = 98 → rf_SC xt A s) (hd : decode cc pc = .ok (.arraylength, 1)) (h : rf_s_slen own0 (pc + 1) S = some ss) (kk : rf_K p l e R s m args below meth c Q D cl tys A H0 xt nL ρ0 ss) : rf_G p l e R s m args below meth c Q D cl tys A H0 xt nL ρ0 pc S := by
  obtain ⟨E, L, st, w, nn⟩ := S
  unfold rf_s_slen at h
  dsimp only at h
  split at h
  next a st' =>
    split at h
    next ha =>
      simp only [Bool.and_eq_true] at ha
      obtain ⟨t, k, d⟩ := a
      cases Nat.eq_of_beq_eq_true ha.1
      obtain ⟨f, f1, f2, f3, f4, -⟩ := hsc (Nat.eq_of_beq_eq_true ha.2)
      cases h
      intro ρ ad ws H locs ls stc hR
      have hs := hR.2.2.2.2.2.2
      match stc, hR, hs with
      | v0 :: stc, hR, hs =>
        obtain ⟨e0, r, r1, r2⟩ := hs.1
        subst e0
        have hS := hR.2.2.2.2.1.2.2.1
        subst hH
        have e1 : (Int32.ofNat (xt 12)).toInt = ((xt 12 : Nat) : Int) := by
          rw [Int32.toInt_ofNat']
          have e9 : (Int32.size : Int) = 4294967296 := rfl
          exact Int.bmod_eq_of_le (by omega) (by omega)
        exact va_slen hx hb f1 f2 f3 hS hd (kk _ List.mem_cons_self ρ ad ws H locs ls _ ⟨hR.1, hR.2.1, hR.2.2.1, hR.2.2.2.1, hR.2.2.2.2.1, hR.2.2.2.2.2.1, ⟨⟨_, rfl, r, r1, by rw [e1]; exact r2⟩, hs.2⟩⟩)
    next => cases h
  next => cases h
theorem rf_t_sld {own0 pc : Nat} {S : rf_AS} {ss : List (Nat × rf_AS)} (hx : p.tables.exec = Jvm.exec) (hb : c.code = cc) (hH : H0 = s.heap) (hsc : own0 = 98 → rf_SC xt A s) (hd : decode cc pc = .ok (.iaload, 1)) (h : rf_s_sld own0 (pc + 1) S = some ss) (kk : rf_K p l e R s m args below meth c Q D cl tys A H0 xt nL ρ0 ss) : rf_G p l e R s m args below meth c Q D cl tys A H0 xt nL ρ0 pc S := by
  obtain ⟨E, L, st, w, fs, nc, ns⟩ := S
  unfold rf_s_sld at h
  dsimp only at h
  split at h
  next i a st' =>
    split at h
    next ha =>
      simp only [Bool.and_eq_true] at ha
      obtain ⟨h1, h2, h3, h4, h5⟩ := ha
      obtain ⟨t, k, d⟩ := a
      obtain ⟨ti, ki, di⟩ := i
      cases Nat.eq_of_beq_eq_true h1
      cases Nat.eq_of_beq_eq_true h4
      obtain ⟨f, f1, f2, f3, f4, f5⟩ := hsc (Nat.eq_of_beq_eq_true h2)
      intro ρ ad ws H locs ls stc hR
      have hs := hR.2.2.2.2.2.2
      match stc, hR, hs with
      | vi :: v0 :: stc, hR, hs =>
        obtain ⟨e0, r, r1, r2⟩ := hs.2.1
        subst e0
        have hv := hs.1
        obtain ⟨x, rfl, rx, rx1, rx2⟩ := rf_gv_int hs.1
        have hS := hR.2.2.2.2.1.2.2.1
        subst hH
        have b1 : (0 : Int) ≤ x.toInt := by
          obtain ⟨x', e9, -, -, h9, -⟩ := rf_nn_spec hR.2.1 h3 hv
          cases e9
          exact h9
        have b2 : x.toInt + 1 ≤ ((xt 12 : Nat) : Int) := by
          have := rf_leq_spec hR.2.1 (a := (0, ki, di + 1)) (b := (0, k, d)) ⟨rx, rx1, rfl⟩ ⟨r, r1, rfl⟩ h5
          dsimp only at this r2 rx2
          omega
        have hin : vp_in x (xt 12) := vp_in_iff.mpr ⟨b1, by omega⟩
        have hcl : x.toNatClampNeg = x.toInt.toNat := rfl
        have hval := f5 x.toNatClampNeg (by rw [hcl]; omega)
        have hnum : rf_num ρ (0, ki, di) x.toInt := ⟨rx, rx1, rx2⟩
        split at h
        next v hm =>
          cases h
          obtain ⟨vv, v1, v2⟩ := rf_m19_spec hR.2.1 hR.2.2.2.2.1.2.2.2 hnum hm
          obtain ⟨rv, rv1, rv2⟩ := v1
          rw [hcl] at hval
          refine va_sld hx hb f1 f2 f3 hS hin hd (kk _ List.mem_cons_self ρ ad ws H locs ls _ ⟨hR.1, hR.2.1, hR.2.2.1, hR.2.2.2.1, hR.2.2.2.2.1, hR.2.2.2.2.2.1, ⟨⟨_, rfl, rv, rv1, ?_⟩, hs.2.2⟩⟩)
          rw [hcl, hval, ← v2, rv2]
        next =>
          cases h
          obtain ⟨l1, hr⟩ := rf_rel_res hR (rf_top_int hR.2.1 (f x.toNatClampNeg)) hs.2.2
          have hg := hr.2.2.2.2.2.2.1
          obtain ⟨y, ey, ry, ry1, ry2⟩ := rf_gv_int hg
          cases ey
          refine va_sld hx hb f1 f2 f3 hS hin hd (kk _ List.mem_cons_self (ρ ++ l1) ad ws H locs ls _ (rf_rel_facts hr (fun g hg9 => ?_)))
          rcases List.mem_cons.mp hg9 with rfl | hg9
          · exact ⟨[x.toInt, (f x.toNatClampNeg).toInt], ⟨rf_num_app hnum, ⟨ry, ry1, ry2⟩, trivial⟩, b1, by rw [← hcl]; exact hval⟩
          · exact hr.2.2.2.2.1.2.2.2 g hg9
    next => cases h
  next => cases h
end
